/-! ===== the reference: digest, file ===== -/
theorem cpB_mkf (r md S : Nat → Int32) : cpB r (mkf md S 32) 32 = mkf r S 32 := by
  funext x
  unfold cpB
  by_cases h : x < 32
  · rw [if_pos h]
    unfold mkf
    rw [if_pos h, if_pos h, i8_i8]
  · rw [if_neg h]
    unfold mkf
    rw [if_neg h]
def shS (r : Nat → Int32) (C : Int32) : Nat → Int32 := fun x => if x < 4 then (jushr C (nI (24 - 8 * x))).toInt8.toInt32 else r x
theorem cpB_mkS (r md : Nat → Int32) (C : Int32) : cpB r (fun x => mkS md C 4 (32 + x)) 4 = shS r C := by
  funext x
  unfold cpB shS
  by_cases h : x < 4
  · rw [if_pos h, if_pos h]
    show (mkS md C 4 (32 + x)).toInt8.toInt32 = _
    unfold mkS
    rw [if_pos (by omega), i8_i8, Nat.add_sub_cancel_left]
  · rw [if_neg h, if_neg h]
def wnt (r S : Nat → Int32) (C : Int32) (s : Nat) : Nat → Int32 := fun x => if s ≤ x ∧ x < s + 36 then dgb S C (x - s) else r x
theorem cpF_wnt (r md S : Nat → Int32) (C : Int32) (s : Nat) : cpF r (mkS (mkf md S 32) C 4) s 36 = wnt r S C s := by
  funext x
  unfold cpF wnt
  by_cases h : s ≤ x ∧ x < s + 36
  · rw [if_pos h, if_pos h]
    by_cases h2 : x - s < 32
    · unfold mkS
      rw [if_neg (by omega), dgb_lo (C := C) h2]
      unfold dgb
      rw [if_pos h2, i8_i8]
    · rw [dgb_hi (S := S) (by omega) (by omega)]
      unfold dgb
      rw [if_neg h2, i8_i8]
  · rw [if_neg h, if_neg h]

theorem up_dg (f : Nat → va_E) (o o1 b b' x y z m o2 : va_E) : va_up (va_up (va_up (va_up (va_up (va_up (va_up (va_up (va_up f 302 o) 302 o1) 319 b) 319 b') 321 x) 323 y) 322 z) 320 m) 302 o2 = va_up (va_up (va_up (va_up (va_up (va_up f 302 o2) 319 b') 321 x) 323 y) 322 z) 320 m := by
  funext j
  simp only [va_up]
  by_cases h : j = 302
  · simp [h]
  · by_cases h1 : j = 319
    · simp [h1]
    · simp [h, h1]
theorem up_dh (f : Nat → va_E) (o o1 b m o2 : va_E) : va_up (va_up (va_up (va_up (va_up f 302 o) 302 o1) 319 b) 320 m) 302 o2 = va_up (va_up (va_up f 302 o2) 319 b) 320 m := by
  funext j
  simp only [va_up]
  by_cases h : j = 302
  · simp [h]
  · simp [h]

abbrev rmX6_digest : Room := { frames := 4, cells := 0, slots := 0, locals := 92 }

set_option maxHeartbeats 4000000 in
set_option maxRecDepth 100000 in
theorem k_X6_digest_a0 (l : Launch) (D : va_G) (ca : Nat → ClassId) (N : Nat) (ad : Nat → Nat) (B tR tK : Nat) (f : Nat → va_E) (dd : xD N ad B) (hN : 326 ≤ N) (n : Nat → Nat) (g : Nat → Nat → Int32) (z : Nat → Nat → Int32) (zn : Nat) (tb : Nat → Int32) (hR : RepM ca ad n g z zn tb f)  (h4 : n 1 ≤ 200) : xMi l yX6_digest wsX6_digest rmX6_digest [.ref (ad 302), .int (nI 0)] D ca N ad B tR tK f (fun r u => nI 32 = r ∧ ∃ (z1 : Nat → Nat → Int32) (zn1 : Nat), RepM ca ad (va_up (va_up n 7 0) 5 32) (va_up g 16 (mkf (g 16) (sha (n 1) (fun x => g 0 x &&& nI 255)) 32)) z1 zn1 tb u ∧ ∀ y, (y < 302 ∨ 326 ≤ y) → u y = f y) := by
  refine x_open (cc := cX6_digest) (maxL := 3) (ret := (some .int)) (by decide) rfl (Nat.le_of_ble_eq_true rfl) ?_
  intro p e s m below meth c ls hx hb hml hown hts hr hlocks hnm hB hK hE hw hl
  have hown : s.vm.findClass RX6 = some m.cls := hown
  have hl : lv_has ls 3 [(0, .ref (ad 302)), (1, .int (nI 0))] := hl
  obtain ⟨c_302, c_303, c_304, c_305, c_306, c_307, c_308, c_309, c_310, c_311, c_312, c_313, c_314, c_315, c_316, c_317, c_318, c_319, c_320, c_321, c_322, c_323, c_324, c_325, hzn⟩ := hR
  have hin_7 : ∀ w ∈ u_ws RX6 TX6 32, w ∈ wsX6_digest := by decide +kernel
  have hf_215 := hts (.fieldLink RX6 215 "FixityRowsModel" "shown" "I") (by decide +kernel)
  have hf_61 := hts (.fieldLink RX6 61 "FixityRowsModel" "show" "[B") (by decide +kernel)
  have hf_67 := hts (.fieldLink RX6 67 "FixityRowsModel" "made" "[B") (by decide +kernel)
  have hf_160 := hts (.fieldLink RX6 160 "FixityRowsModel" "thrown" "I") (by decide +kernel)
  have b_302 := c_302
  have b_303 := c_303
  have b_304 := c_304
  have b_305 := c_305
  have b_306 := c_306
  have b_307 := c_307
  have b_308 := c_308
  have b_309 := c_309
  have b_310 := c_310
  have b_311 := c_311
  have b_312 := c_312
  have b_313 := c_313
  have b_314 := c_314
  have b_315 := c_315
  have b_316 := c_316
  have b_317 := c_317
  have b_318 := c_318
  have b_319 := c_319
  have b_320 := c_320
  have b_321 := c_321
  have b_322 := c_322
  have b_323 := c_323
  have b_324 := c_324
  have b_325 := c_325
  have P_89 : ∀ (b1 : Nat → Int32) (w1 : Nat → Int32) (v1 : Nat → Int32) (h1 : Nat → Int32) (H : Heap) (locs : List Loc) (ls : Array Slot), xw D vwCl N ad B s.heap (va_up (va_up (va_up (va_up (va_up (va_up (va_up f 302 (.inr (7, mO ad 0 (n 0) (n 1) (n 2) (g 13 0) (n 3) (n 4) 32 (n 1)))) 319 (ai (ca 1) 320 b1)) 321 (ai (ca 0) 64 w1)) 323 (ai (ca 0) 8 v1)) 322 (ai (ca 0) 8 h1)) 320 (ai (ca 1) 36 (mkf (z 1) (sha (n 1) (fun x => g 0 x &&& nI 255)) 32))) 318 (ai (ca 1) 32 (mkf (g 16) (sha (n 1) (fun x => g 0 x &&& nI 255)) 32))) H locs → lv_has ls 3 [(0, .ref (ad 302))] → W p l e rmX6_digest s m ([.ref (ad 302), .int (nI 0)] : List Value).toArray below meth c H locs 0 0 (MQ below (xQi (fun r u => nI 32 = r ∧ ∃ (z1 : Nat → Nat → Int32) (zn1 : Nat), RepM ca ad (va_up (va_up n 7 0) 5 32) (va_up g 16 (mkf (g 16) (sha (n 1) (fun x => g 0 x &&& nI 255)) 32)) z1 zn1 tb u ∧ ∀ y, (y < 302 ∨ 326 ≤ y) → u y = f y) D N ad B) ([.ref (ad 302), .int (nI 0)] : List Value).toArray s 0 0 (xA B)) (F0 m 89 ls []) := by
    intro b1 w1 v1 h1 H locs ls hw hl
    have c_302 := b_302
    have c_303 := b_303
    have c_304 := b_304
    have c_305 := b_305
    have c_306 := b_306
    have c_307 := b_307
    have c_308 := b_308
    have c_309 := b_309
    have c_310 := b_310
    have c_311 := b_311
    have c_312 := b_312
    have c_313 := b_313
    have c_314 := b_314
    have c_315 := b_315
    have c_316 := b_316
    have c_317 := b_317
    have c_318 := b_318
    have c_319 := b_319
    have c_320 := b_320
    have c_321 := b_321
    have c_322 := b_322
    have c_323 := b_323
    have c_324 := b_324
    have c_325 := b_325
    obtain ⟨f_1, ef_1⟩ : ∃ zq9, zq9 = va_up (va_up (va_up (va_up (va_up (va_up (va_up f 302 (.inr (7, mO ad 0 (n 0) (n 1) (n 2) (g 13 0) (n 3) (n 4) 32 (n 1)))) 319 (ai (ca 1) 320 b1)) 321 (ai (ca 0) 64 w1)) 323 (ai (ca 0) 8 v1)) 322 (ai (ca 0) 8 h1)) 320 (ai (ca 1) 36 (mkf (z 1) (sha (n 1) (fun x => g 0 x &&& nI 255)) 32))) 318 (ai (ca 1) 32 (mkf (g 16) (sha (n 1) (fun x => g 0 x &&& nI 255)) 32)) := ⟨_, rfl⟩
    have hw : xw D vwCl N ad B s.heap f_1 H locs := by rw [ef_1]; exact hw
    have c_302 : f_1 302 = .inr (7, mO ad 0 (n 0) (n 1) (n 2) (g 13 0) (n 3) (n 4) 32 (n 1)) := by rw [ef_1, va_up_ne _ _ (by decide), va_up_ne _ _ (by decide), va_up_ne _ _ (by decide), va_up_ne _ _ (by decide), va_up_ne _ _ (by decide), va_up_ne _ _ (by decide), va_up_self]
    have c_319 : f_1 319 = ai (ca 1) 320 b1 := by rw [ef_1, va_up_ne _ _ (by decide), va_up_ne _ _ (by decide), va_up_ne _ _ (by decide), va_up_ne _ _ (by decide), va_up_ne _ _ (by decide), va_up_self]
    have c_321 : f_1 321 = ai (ca 0) 64 w1 := by rw [ef_1, va_up_ne _ _ (by decide), va_up_ne _ _ (by decide), va_up_ne _ _ (by decide), va_up_ne _ _ (by decide), va_up_self]
    have c_323 : f_1 323 = ai (ca 0) 8 v1 := by rw [ef_1, va_up_ne _ _ (by decide), va_up_ne _ _ (by decide), va_up_ne _ _ (by decide), va_up_self]
    have c_322 : f_1 322 = ai (ca 0) 8 h1 := by rw [ef_1, va_up_ne _ _ (by decide), va_up_ne _ _ (by decide), va_up_self]
    have c_320 : f_1 320 = ai (ca 1) 36 (mkf (z 1) (sha (n 1) (fun x => g 0 x &&& nI 255)) 32) := by rw [ef_1, va_up_ne _ _ (by decide), va_up_self]
    have c_318 : f_1 318 = ai (ca 1) 32 (mkf (g 16) (sha (n 1) (fun x => g 0 x &&& nI 255)) 32) := by rw [ef_1, va_up_self]
    refine lv_aload_n hx hb dX6_digest_89 rfl (lv_at hl 0 rfl) ?_
    refine x_get (ci := 7) (C := RX6) (T := TX6) (n := 32) (ref := RX6) hx hb hts hin_7 hown hK hw 302 (by omega) c_302 rfl 22 (by decide) hf_215 (fun _ h => h) rfl dX6_digest_90 ?_
    have c_303 : f_1 303 = ai (ca 1) 200 (g 0) := by rw [ef_1, va_up_ne _ _ (by decide), va_up_ne _ _ (by decide), va_up_ne _ _ (by decide), va_up_ne _ _ (by decide), va_up_ne _ _ (by decide), va_up_ne _ _ (by decide), va_up_ne _ _ (by decide)]; exact c_303
    have c_304 : f_1 304 = ai (ca 1) 4000 (g 1) := by rw [ef_1, va_up_ne _ _ (by decide), va_up_ne _ _ (by decide), va_up_ne _ _ (by decide), va_up_ne _ _ (by decide), va_up_ne _ _ (by decide), va_up_ne _ _ (by decide), va_up_ne _ _ (by decide)]; exact c_304
    have c_305 : f_1 305 = ai (ca 0) 20 (g 2) := by rw [ef_1, va_up_ne _ _ (by decide), va_up_ne _ _ (by decide), va_up_ne _ _ (by decide), va_up_ne _ _ (by decide), va_up_ne _ _ (by decide), va_up_ne _ _ (by decide), va_up_ne _ _ (by decide)]; exact c_305
    have c_306 : f_1 306 = ai (ca 0) 20 (g 3) := by rw [ef_1, va_up_ne _ _ (by decide), va_up_ne _ _ (by decide), va_up_ne _ _ (by decide), va_up_ne _ _ (by decide), va_up_ne _ _ (by decide), va_up_ne _ _ (by decide), va_up_ne _ _ (by decide)]; exact c_306
    have c_307 : f_1 307 = ai (ca 1) 720 (g 4) := by rw [ef_1, va_up_ne _ _ (by decide), va_up_ne _ _ (by decide), va_up_ne _ _ (by decide), va_up_ne _ _ (by decide), va_up_ne _ _ (by decide), va_up_ne _ _ (by decide), va_up_ne _ _ (by decide)]; exact c_307
    have c_308 : f_1 308 = ai (ca 0) 20 (g 5) := by rw [ef_1, va_up_ne _ _ (by decide), va_up_ne _ _ (by decide), va_up_ne _ _ (by decide), va_up_ne _ _ (by decide), va_up_ne _ _ (by decide), va_up_ne _ _ (by decide), va_up_ne _ _ (by decide)]; exact c_308
    have c_309 : f_1 309 = ai (ca 0) 20 (g 6) := by rw [ef_1, va_up_ne _ _ (by decide), va_up_ne _ _ (by decide), va_up_ne _ _ (by decide), va_up_ne _ _ (by decide), va_up_ne _ _ (by decide), va_up_ne _ _ (by decide), va_up_ne _ _ (by decide)]; exact c_309
    have c_310 : f_1 310 = ai (ca 0) 20 (g 7) := by rw [ef_1, va_up_ne _ _ (by decide), va_up_ne _ _ (by decide), va_up_ne _ _ (by decide), va_up_ne _ _ (by decide), va_up_ne _ _ (by decide), va_up_ne _ _ (by decide), va_up_ne _ _ (by decide)]; exact c_310
    have c_311 : f_1 311 = ai (ca 0) 20 (g 8) := by rw [ef_1, va_up_ne _ _ (by decide), va_up_ne _ _ (by decide), va_up_ne _ _ (by decide), va_up_ne _ _ (by decide), va_up_ne _ _ (by decide), va_up_ne _ _ (by decide), va_up_ne _ _ (by decide)]; exact c_311
    have c_312 : f_1 312 = ai (ca 0) 20 (g 9) := by rw [ef_1, va_up_ne _ _ (by decide), va_up_ne _ _ (by decide), va_up_ne _ _ (by decide), va_up_ne _ _ (by decide), va_up_ne _ _ (by decide), va_up_ne _ _ (by decide), va_up_ne _ _ (by decide)]; exact c_312
    have c_313 : f_1 313 = ai (ca 2) 20 (g 10) := by rw [ef_1, va_up_ne _ _ (by decide), va_up_ne _ _ (by decide), va_up_ne _ _ (by decide), va_up_ne _ _ (by decide), va_up_ne _ _ (by decide), va_up_ne _ _ (by decide), va_up_ne _ _ (by decide)]; exact c_313
    have c_314 : f_1 314 = ai (ca 0) 200 (g 11) := by rw [ef_1, va_up_ne _ _ (by decide), va_up_ne _ _ (by decide), va_up_ne _ _ (by decide), va_up_ne _ _ (by decide), va_up_ne _ _ (by decide), va_up_ne _ _ (by decide), va_up_ne _ _ (by decide)]; exact c_314
    have c_315 : f_1 315 = ai (ca 0) 200 (g 12) := by rw [ef_1, va_up_ne _ _ (by decide), va_up_ne _ _ (by decide), va_up_ne _ _ (by decide), va_up_ne _ _ (by decide), va_up_ne _ _ (by decide), va_up_ne _ _ (by decide), va_up_ne _ _ (by decide)]; exact c_315
    have c_316 : f_1 316 = ai (ca 0) 200 (g 14) := by rw [ef_1, va_up_ne _ _ (by decide), va_up_ne _ _ (by decide), va_up_ne _ _ (by decide), va_up_ne _ _ (by decide), va_up_ne _ _ (by decide), va_up_ne _ _ (by decide), va_up_ne _ _ (by decide)]; exact c_316
    have c_317 : f_1 317 = ai (ca 1) 6400 (g 15) := by rw [ef_1, va_up_ne _ _ (by decide), va_up_ne _ _ (by decide), va_up_ne _ _ (by decide), va_up_ne _ _ (by decide), va_up_ne _ _ (by decide), va_up_ne _ _ (by decide), va_up_ne _ _ (by decide)]; exact c_317
    have c_324 : f_1 324 = ai (ca 0) 8 shR := by rw [ef_1, va_up_ne _ _ (by decide), va_up_ne _ _ (by decide), va_up_ne _ _ (by decide), va_up_ne _ _ (by decide), va_up_ne _ _ (by decide), va_up_ne _ _ (by decide), va_up_ne _ _ (by decide)]; exact c_324
    have c_325 : f_1 325 = ai (ca 0) 64 shK := by rw [ef_1, va_up_ne _ _ (by decide), va_up_ne _ _ (by decide), va_up_ne _ _ (by decide), va_up_ne _ _ (by decide), va_up_ne _ _ (by decide), va_up_ne _ _ (by decide), va_up_ne _ _ (by decide)]; exact c_325
    have qn_0 : (va_up (va_up n 7 0) 5 32) 0 = n 0 := by rw [va_up_ne _ _ (by decide), va_up_ne _ _ (by decide)]
    have qn_1 : (va_up (va_up n 7 0) 5 32) 1 = n 1 := by rw [va_up_ne _ _ (by decide), va_up_ne _ _ (by decide)]
    have qn_2 : (va_up (va_up n 7 0) 5 32) 2 = n 2 := by rw [va_up_ne _ _ (by decide), va_up_ne _ _ (by decide)]
    have qn_3 : (va_up (va_up n 7 0) 5 32) 3 = n 3 := by rw [va_up_ne _ _ (by decide), va_up_ne _ _ (by decide)]
    have qn_4 : (va_up (va_up n 7 0) 5 32) 4 = n 4 := by rw [va_up_ne _ _ (by decide), va_up_ne _ _ (by decide)]
    have qn_5 : (va_up (va_up n 7 0) 5 32) 5 = 32 := by rw [va_up_self]
    have qn_6 : (va_up (va_up n 7 0) 5 32) 6 = n 6 := by rw [va_up_ne _ _ (by decide), va_up_ne _ _ (by decide)]
    have qn_7 : (va_up (va_up n 7 0) 5 32) 7 = 0 := by rw [va_up_ne _ _ (by decide), va_up_self]
    have qg_0 : (va_up g 16 (mkf (g 16) (sha (n 1) (fun x => g 0 x &&& nI 255)) 32)) 0 = g 0 := by rw [va_up_ne _ _ (by decide)]
    have qg_1 : (va_up g 16 (mkf (g 16) (sha (n 1) (fun x => g 0 x &&& nI 255)) 32)) 1 = g 1 := by rw [va_up_ne _ _ (by decide)]
    have qg_2 : (va_up g 16 (mkf (g 16) (sha (n 1) (fun x => g 0 x &&& nI 255)) 32)) 2 = g 2 := by rw [va_up_ne _ _ (by decide)]
    have qg_3 : (va_up g 16 (mkf (g 16) (sha (n 1) (fun x => g 0 x &&& nI 255)) 32)) 3 = g 3 := by rw [va_up_ne _ _ (by decide)]
    have qg_4 : (va_up g 16 (mkf (g 16) (sha (n 1) (fun x => g 0 x &&& nI 255)) 32)) 4 = g 4 := by rw [va_up_ne _ _ (by decide)]
    have qg_5 : (va_up g 16 (mkf (g 16) (sha (n 1) (fun x => g 0 x &&& nI 255)) 32)) 5 = g 5 := by rw [va_up_ne _ _ (by decide)]
    have qg_6 : (va_up g 16 (mkf (g 16) (sha (n 1) (fun x => g 0 x &&& nI 255)) 32)) 6 = g 6 := by rw [va_up_ne _ _ (by decide)]
    have qg_7 : (va_up g 16 (mkf (g 16) (sha (n 1) (fun x => g 0 x &&& nI 255)) 32)) 7 = g 7 := by rw [va_up_ne _ _ (by decide)]
    have qg_8 : (va_up g 16 (mkf (g 16) (sha (n 1) (fun x => g 0 x &&& nI 255)) 32)) 8 = g 8 := by rw [va_up_ne _ _ (by decide)]
    have qg_9 : (va_up g 16 (mkf (g 16) (sha (n 1) (fun x => g 0 x &&& nI 255)) 32)) 9 = g 9 := by rw [va_up_ne _ _ (by decide)]
    have qg_10 : (va_up g 16 (mkf (g 16) (sha (n 1) (fun x => g 0 x &&& nI 255)) 32)) 10 = g 10 := by rw [va_up_ne _ _ (by decide)]
    have qg_11 : (va_up g 16 (mkf (g 16) (sha (n 1) (fun x => g 0 x &&& nI 255)) 32)) 11 = g 11 := by rw [va_up_ne _ _ (by decide)]
    have qg_12 : (va_up g 16 (mkf (g 16) (sha (n 1) (fun x => g 0 x &&& nI 255)) 32)) 12 = g 12 := by rw [va_up_ne _ _ (by decide)]
    have qg_13 : (va_up g 16 (mkf (g 16) (sha (n 1) (fun x => g 0 x &&& nI 255)) 32)) 13 = g 13 := by rw [va_up_ne _ _ (by decide)]
    have qg_14 : (va_up g 16 (mkf (g 16) (sha (n 1) (fun x => g 0 x &&& nI 255)) 32)) 14 = g 14 := by rw [va_up_ne _ _ (by decide)]
    have qg_15 : (va_up g 16 (mkf (g 16) (sha (n 1) (fun x => g 0 x &&& nI 255)) 32)) 15 = g 15 := by rw [va_up_ne _ _ (by decide)]
    have qg_16 : (va_up g 16 (mkf (g 16) (sha (n 1) (fun x => g 0 x &&& nI 255)) 32)) 16 = mkf (g 16) (sha (n 1) (fun x => g 0 x &&& nI 255)) 32 := by rw [va_up_self]
    have qz_0 : (va_up (va_up (va_up (va_up (va_up z 0 b1) 1 (mkf (z 1) (sha (n 1) (fun x => g 0 x &&& nI 255)) 32)) 2 w1) 3 h1) 4 v1) 0 = b1 := by rw [va_up_ne _ _ (by decide), va_up_ne _ _ (by decide), va_up_ne _ _ (by decide), va_up_ne _ _ (by decide), va_up_self]
    have qz_1 : (va_up (va_up (va_up (va_up (va_up z 0 b1) 1 (mkf (z 1) (sha (n 1) (fun x => g 0 x &&& nI 255)) 32)) 2 w1) 3 h1) 4 v1) 1 = mkf (z 1) (sha (n 1) (fun x => g 0 x &&& nI 255)) 32 := by rw [va_up_ne _ _ (by decide), va_up_ne _ _ (by decide), va_up_ne _ _ (by decide), va_up_self]
    have qz_2 : (va_up (va_up (va_up (va_up (va_up z 0 b1) 1 (mkf (z 1) (sha (n 1) (fun x => g 0 x &&& nI 255)) 32)) 2 w1) 3 h1) 4 v1) 2 = w1 := by rw [va_up_ne _ _ (by decide), va_up_ne _ _ (by decide), va_up_self]
    have qz_3 : (va_up (va_up (va_up (va_up (va_up z 0 b1) 1 (mkf (z 1) (sha (n 1) (fun x => g 0 x &&& nI 255)) 32)) 2 w1) 3 h1) 4 v1) 3 = h1 := by rw [va_up_ne _ _ (by decide), va_up_self]
    have qz_4 : (va_up (va_up (va_up (va_up (va_up z 0 b1) 1 (mkf (z 1) (sha (n 1) (fun x => g 0 x &&& nI 255)) 32)) 2 w1) 3 h1) 4 v1) 4 = v1 := by rw [va_up_self]
    have hRz : RepM ca ad (va_up (va_up n 7 0) 5 32) (va_up g 16 (mkf (g 16) (sha (n 1) (fun x => g 0 x &&& nI 255)) 32)) (va_up (va_up (va_up (va_up (va_up z 0 b1) 1 (mkf (z 1) (sha (n 1) (fun x => g 0 x &&& nI 255)) 32)) 2 w1) 3 h1) 4 v1) (n 1) tb f_1 := ⟨(by rw [qn_7, qn_0, qn_1, qn_2, qn_3, qn_4, qn_5, qg_13]; exact c_302),
          (by rw [qg_0]; exact c_303),
          (by rw [qg_1]; exact c_304),
          (by rw [qg_2]; exact c_305),
          (by rw [qg_3]; exact c_306),
          (by rw [qg_4]; exact c_307),
          (by rw [qg_5]; exact c_308),
          (by rw [qg_6]; exact c_309),
          (by rw [qg_7]; exact c_310),
          (by rw [qg_8]; exact c_311),
          (by rw [qg_9]; exact c_312),
          (by rw [qg_10]; exact c_313),
          (by rw [qg_11]; exact c_314),
          (by rw [qg_12]; exact c_315),
          (by rw [qg_14]; exact c_316),
          (by rw [qg_15]; exact c_317),
          (by rw [qg_16]; exact c_318),
          (by rw [qz_0]; exact c_319),
          (by rw [qz_1]; exact c_320),
          (by rw [qz_2]; exact c_321),
          (by rw [qz_3]; exact c_322),
          (by rw [qz_4]; exact c_323),
          c_324,
          c_325, (by first | omega | assumption)⟩
    exact x_iret hx hb hr hlocks hw ⟨rfl, va_up (va_up (va_up (va_up (va_up z 0 b1) 1 (mkf (z 1) (sha (n 1) (fun x => g 0 x &&& nI 255)) 32)) 2 w1) 3 h1) 4 v1, n 1, hRz, (fun y hy => by rw [ef_1, va_up_ne _ _ (by omega), va_up_ne _ _ (by omega), va_up_ne _ _ (by omega), va_up_ne _ _ (by omega), va_up_ne _ _ (by omega), va_up_ne _ _ (by omega), va_up_ne _ _ (by omega)])⟩ dX6_digest_93
  have P_52 : ∀ (n_52 : Nat) (b1 : Nat → Int32) (w1 : Nat → Int32) (v1 : Nat → Int32) (h1 : Nat → Int32) (k : Nat) (H : Heap) (locs : List Loc) (ls : Array Slot), 32 + 1 ≤ k + n_52 → (k ≤ 32) → xw D vwCl N ad B s.heap (va_up (va_up (va_up (va_up (va_up (va_up (va_up f 302 (.inr (7, mO ad 0 (n 0) (n 1) (n 2) (g 13 0) (n 3) (n 4) 32 (n 1)))) 319 (ai (ca 1) 320 b1)) 321 (ai (ca 0) 64 w1)) 323 (ai (ca 0) 8 v1)) 322 (ai (ca 0) 8 h1)) 320 (ai (ca 1) 36 (mkf (z 1) (sha (n 1) (fun x => g 0 x &&& nI 255)) 32))) 318 (ai (ca 1) 32 (cpB (g 16) (mkf (z 1) (sha (n 1) (fun x => g 0 x &&& nI 255)) 32) k))) H locs → lv_has ls 3 [(0, .ref (ad 302)), (1, .int (nI 0)), (2, .int (nI k))] → W p l e rmX6_digest s m ([.ref (ad 302), .int (nI 0)] : List Value).toArray below meth c H locs 0 0 (MQ below (xQi (fun r u => nI 32 = r ∧ ∃ (z1 : Nat → Nat → Int32) (zn1 : Nat), RepM ca ad (va_up (va_up n 7 0) 5 32) (va_up g 16 (mkf (g 16) (sha (n 1) (fun x => g 0 x &&& nI 255)) 32)) z1 zn1 tb u ∧ ∀ y, (y < 302 ∨ 326 ≤ y) → u y = f y) D N ad B) ([.ref (ad 302), .int (nI 0)] : List Value).toArray s 0 0 (xA B)) (F0 m 52 ls []) := by
    intro n_52
    induction n_52 with
    | zero =>
      intro b1 w1 v1 h1 k H locs ls hm_52 hk hw hl
      exact absurd hm_52 (by omega)
    | succ n_52 ih_52 =>
      intro b1 w1 v1 h1 k H locs ls hm_52 hk hw hl
      have c_302 := b_302
      have c_303 := b_303
      have c_304 := b_304
      have c_305 := b_305
      have c_306 := b_306
      have c_307 := b_307
      have c_308 := b_308
      have c_309 := b_309
      have c_310 := b_310
      have c_311 := b_311
      have c_312 := b_312
      have c_313 := b_313
      have c_314 := b_314
      have c_315 := b_315
      have c_316 := b_316
      have c_317 := b_317
      have c_318 := b_318
      have c_319 := b_319
      have c_320 := b_320
      have c_321 := b_321
      have c_322 := b_322
      have c_323 := b_323
      have c_324 := b_324
      have c_325 := b_325
      obtain ⟨f_2, ef_2⟩ : ∃ zq9, zq9 = va_up (va_up (va_up (va_up (va_up (va_up (va_up f 302 (.inr (7, mO ad 0 (n 0) (n 1) (n 2) (g 13 0) (n 3) (n 4) 32 (n 1)))) 319 (ai (ca 1) 320 b1)) 321 (ai (ca 0) 64 w1)) 323 (ai (ca 0) 8 v1)) 322 (ai (ca 0) 8 h1)) 320 (ai (ca 1) 36 (mkf (z 1) (sha (n 1) (fun x => g 0 x &&& nI 255)) 32))) 318 (ai (ca 1) 32 (cpB (g 16) (mkf (z 1) (sha (n 1) (fun x => g 0 x &&& nI 255)) 32) k)) := ⟨_, rfl⟩
      have hw : xw D vwCl N ad B s.heap f_2 H locs := by rw [ef_2]; exact hw
      have c_302 : f_2 302 = .inr (7, mO ad 0 (n 0) (n 1) (n 2) (g 13 0) (n 3) (n 4) 32 (n 1)) := by rw [ef_2, va_up_ne _ _ (by decide), va_up_ne _ _ (by decide), va_up_ne _ _ (by decide), va_up_ne _ _ (by decide), va_up_ne _ _ (by decide), va_up_ne _ _ (by decide), va_up_self]
      have c_319 : f_2 319 = ai (ca 1) 320 b1 := by rw [ef_2, va_up_ne _ _ (by decide), va_up_ne _ _ (by decide), va_up_ne _ _ (by decide), va_up_ne _ _ (by decide), va_up_ne _ _ (by decide), va_up_self]
      have c_321 : f_2 321 = ai (ca 0) 64 w1 := by rw [ef_2, va_up_ne _ _ (by decide), va_up_ne _ _ (by decide), va_up_ne _ _ (by decide), va_up_ne _ _ (by decide), va_up_self]
      have c_323 : f_2 323 = ai (ca 0) 8 v1 := by rw [ef_2, va_up_ne _ _ (by decide), va_up_ne _ _ (by decide), va_up_ne _ _ (by decide), va_up_self]
      have c_322 : f_2 322 = ai (ca 0) 8 h1 := by rw [ef_2, va_up_ne _ _ (by decide), va_up_ne _ _ (by decide), va_up_self]
      have c_320 : f_2 320 = ai (ca 1) 36 (mkf (z 1) (sha (n 1) (fun x => g 0 x &&& nI 255)) 32) := by rw [ef_2, va_up_ne _ _ (by decide), va_up_self]
      have c_318 : f_2 318 = ai (ca 1) 32 (cpB (g 16) (mkf (z 1) (sha (n 1) (fun x => g 0 x &&& nI 255)) 32) k) := by rw [ef_2, va_up_self]
      refine lv_iload_n hx hb dX6_digest_52 rfl (lv_at hl 2 rfl) ?_
      refine lv_aload_n hx hb dX6_digest_53 rfl (lv_at hl 0 rfl) ?_
      refine x_get (ci := 7) (C := RX6) (T := TX6) (n := 32) (ref := RX6) hx hb hts hin_7 hown hK hw 302 (by omega) c_302 rfl 22 (by decide) hf_215 (fun _ h => h) rfl dX6_digest_54 ?_
      refine n_icge (tgt := 89) hx hb dX6_digest_57 (by decide) (by omega) (by omega) (fun hc_57 => ?_) (fun hc_57 => ?_)
      · have hw : xw D vwCl N ad B s.heap (va_up (va_up (va_up (va_up (va_up (va_up (va_up f 302 (.inr (7, mO ad 0 (n 0) (n 1) (n 2) (g 13 0) (n 3) (n 4) 32 (n 1)))) 319 (ai (ca 1) 320 b1)) 321 (ai (ca 0) 64 w1)) 323 (ai (ca 0) 8 v1)) 322 (ai (ca 0) 8 h1)) 320 (ai (ca 1) 36 (mkf (z 1) (sha (n 1) (fun x => g 0 x &&& nI 255)) 32))) 318 (ai (ca 1) 32 (mkf (g 16) (sha (n 1) (fun x => g 0 x &&& nI 255)) 32))) H locs := by
          have ez : f_2 = va_up (va_up (va_up (va_up (va_up (va_up (va_up f 302 (.inr (7, mO ad 0 (n 0) (n 1) (n 2) (g 13 0) (n 3) (n 4) 32 (n 1)))) 319 (ai (ca 1) 320 b1)) 321 (ai (ca 0) 64 w1)) 323 (ai (ca 0) 8 v1)) 322 (ai (ca 0) 8 h1)) 320 (ai (ca 1) 36 (mkf (z 1) (sha (n 1) (fun x => g 0 x &&& nI 255)) 32))) 318 (ai (ca 1) 32 (mkf (g 16) (sha (n 1) (fun x => g 0 x &&& nI 255)) 32)) := by have ek : k = 32 := (by omega); subst ek; rw [← cpB_mkf (g 16) (z 1)]; simp only [ef_2]
          rw [← ez]; exact hw
        exact P_89 b1 w1 v1 h1 _ _ _  hw (lv_sub hl [0] rfl)
      · refine lv_aload_n hx hb dX6_digest_60 rfl (lv_at hl 0 rfl) ?_
        refine x_get (ci := 7) (C := RX6) (T := TX6) (n := 32) (ref := RX6) hx hb hts hin_7 hown hK hw 302 (by omega) c_302 rfl 23 (by decide) hf_61 (fun _ h => h) rfl dX6_digest_61 ?_
        refine lv_iload_n hx hb dX6_digest_64 rfl (lv_at hl 2 rfl) ?_
        refine lv_aload_n hx hb dX6_digest_65 rfl (lv_at hl 0 rfl) ?_
        refine x_get (ci := 7) (C := RX6) (T := TX6) (n := 32) (ref := RX6) hx hb hts hin_7 hown hK hw 302 (by omega) c_302 rfl 26 (by decide) hf_67 (fun _ h => h) rfl dX6_digest_66 ?_
        refine lv_iload_n hx hb dX6_digest_69 rfl (lv_at hl 1 rfl) ?_
        refine lv_if_ne (tgt := 77) hx hb dX6_digest_70 (by decide) (fun h => False.elim (h (by decide))) (fun _ => ?_)
        refine lv_iload_n hx hb dX6_digest_73 rfl (lv_at hl 2 rfl) ?_
        refine lv_goto (tgt := 81) hx hb dX6_digest_74 (by decide) ?_
        refine x_bald (j := k) hx hb hK hw 320 1 (by omega) c_320 rfl rfl (by omega) (by decide) dX6_digest_81 ?_
        refine x_bast (j := k) (y := ((mkf (z 1) (sha (n 1) (fun x => g 0 x &&& nI 255)) 32) k).toInt8.toInt32) hx hb hK dd hw 318 1 (by omega) c_318 rfl rfl (by omega) (by decide) rfl dX6_digest_82 (fun H locs hw => ?_)
        obtain ⟨f_3, ef_3⟩ : ∃ zq9, zq9 = va_up f_2 318 (ai (ca 1) 32 (upd (cpB (g 16) (mkf (z 1) (sha (n 1) (fun x => g 0 x &&& nI 255)) 32) k) k (((mkf (z 1) (sha (n 1) (fun x => g 0 x &&& nI 255)) 32) k).toInt8.toInt32))) := ⟨_, rfl⟩
        have hw : xw D vwCl N ad B s.heap f_3 H locs := by rw [ef_3]; exact hw
        have c_318 : f_3 318 = ai (ca 1) 32 (upd (cpB (g 16) (mkf (z 1) (sha (n 1) (fun x => g 0 x &&& nI 255)) 32) k) k (((mkf (z 1) (sha (n 1) (fun x => g 0 x &&& nI 255)) 32) k).toInt8.toInt32)) := va_up_of ef_3
        refine lv_iinc (v := nI (k + 1)) (lv' := [(2, .int (nI (k + 1))), (0, .ref (ad 302)), (1, .int (nI 0))]) hx hb dX6_digest_83 hl (k := 2) rfl (by rw [show Int32.ofInt 1 = nI 1 from rfl]; exact nI_add _ _) (by decide) rfl (fun ls hl => ?_)
        refine lv_goto (tgt := 52) hx hb dX6_digest_86 (by decide) ?_
        have hw : xw D vwCl N ad B s.heap (va_up (va_up (va_up (va_up (va_up (va_up (va_up f 302 (.inr (7, mO ad 0 (n 0) (n 1) (n 2) (g 13 0) (n 3) (n 4) 32 (n 1)))) 319 (ai (ca 1) 320 b1)) 321 (ai (ca 0) 64 w1)) 323 (ai (ca 0) 8 v1)) 322 (ai (ca 0) 8 h1)) 320 (ai (ca 1) 36 (mkf (z 1) (sha (n 1) (fun x => g 0 x &&& nI 255)) 32))) 318 (ai (ca 1) 32 (cpB (g 16) (mkf (z 1) (sha (n 1) (fun x => g 0 x &&& nI 255)) 32) (k + 1)))) H locs := by
          have ez : f_3 = va_up (va_up (va_up (va_up (va_up (va_up (va_up f 302 (.inr (7, mO ad 0 (n 0) (n 1) (n 2) (g 13 0) (n 3) (n 4) 32 (n 1)))) 319 (ai (ca 1) 320 b1)) 321 (ai (ca 0) 64 w1)) 323 (ai (ca 0) 8 v1)) 322 (ai (ca 0) 8 h1)) 320 (ai (ca 1) 36 (mkf (z 1) (sha (n 1) (fun x => g 0 x &&& nI 255)) 32))) 318 (ai (ca 1) 32 (cpB (g 16) (mkf (z 1) (sha (n 1) (fun x => g 0 x &&& nI 255)) 32) (k + 1))) := by simp only [ef_3, ef_2, up_aa, cpB_s]
          rw [← ez]; exact hw
        exact ih_52 b1 w1 v1 h1 (k + 1) _ _ _ (by omega) (by omega) hw (lv_sub hl [1, 2, 0] rfl)
  refine lv_aload_n hx hb dX6_digest_0 rfl (lv_at hl 0 rfl) ?_
  refine lv_iconst (v := nI 0) hx hb dX6_digest_1 (by decide) ?_
  refine x_put (ci := 7) (C := RX6) (T := TX6) (n := 32) (ref := RX6) (fs' := mO ad 0 (n 0) (n 1) (n 2) (g 13 0) (n 3) (n 4) (n 5) zn) hx hb hts hin_7 tyX6 tyX6_ok nmX6 hown hK dd hw 302 (by omega) c_302 rfl 0 (by decide) hf_160 (fun _ h => h) rfl rfl rfl (Nat.le_of_ble_eq_true rfl) rfl dX6_digest_2 (fun H locs hw => ?_)
  obtain ⟨f_4, ef_4⟩ : ∃ z, z = va_up f 302 (.inr (7, mO ad 0 (n 0) (n 1) (n 2) (g 13 0) (n 3) (n 4) (n 5) zn)) := ⟨_, rfl⟩
  have hw : xw D vwCl N ad B s.heap f_4 H locs := by rw [ef_4]; exact hw
  have c_302 : f_4 302 = .inr (7, mO ad 0 (n 0) (n 1) (n 2) (g 13 0) (n 3) (n 4) (n 5) zn) := va_up_of ef_4
  refine lv_iload_n hx hb dX6_digest_5 rfl (lv_at hl 1 rfl) ?_
  refine lv_iconst (v := nI 0) hx hb dX6_digest_6 (by decide) ?_
  refine lv_iconst (v := nI 1) hx hb dX6_digest_7 (by decide) ?_
  refine x_Si (As := [.int (nI 0), .int (nI 0), .int (nI 1)]) (rest := []) ⟨hx, hb, hml, hown, hts⟩ (k_X6_in_yes l D ca N ad B tR tK f_4 dd 0 0 1   (by omega) (by omega) (by omega)) (va_cwS 3 hts gX6_digest_X6_in rfl rfl rfl (by decide +kernel) ⟨Nat.le_of_ble_eq_true rfl, Nat.le_of_ble_eq_true rfl⟩) hK hE hB hw rfl rfl hl.1 (Nat.le_of_ble_eq_true rfl) ⟨Nat.zero_le _, Nat.zero_le _⟩ dX6_digest_8 (fun r_6 f_5 H locs hp hw => ?_)
  obtain ⟨er, eu⟩ := hp
  rw [← er]
  rw [← eu] at hw
  refine lv_if_ne (tgt := 17) hx hb dX6_digest_11 (by decide) (fun _ => ?_) (fun h => absurd h (by decide))
  refine lv_aload_n hx hb dX6_digest_17 rfl (lv_at hl 0 rfl) ?_
  have c_303 : f_4 303 = ai (ca 1) 200 (g 0) := by rw [ef_4, va_up_ne _ _ (by decide)]; exact c_303
  have c_319 : f_4 319 = ai (ca 1) 320 (z 0) := by rw [ef_4, va_up_ne _ _ (by decide)]; exact c_319
  refine x_Vv (q := 302) (As := []) (rest := []) ⟨hx, hb, hml, hown, hts⟩ (k_X6_gather l D ca N ad B tR tK f_4 dd 0 (n 0) (n 1) (n 2) (g 13 0) (n 3) (n 4) (n 5) zn (z 0) (g 0) c_302 c_303 c_319  (by omega) (by omega)) (cwV 0 hts gX6_digest_X6_gather rfl rfl rfl (by decide +kernel) ⟨Nat.le_of_ble_eq_true rfl, Nat.le_of_ble_eq_true rfl⟩) hK hE hB hw (by omega) c_302 rfl rfl rfl rfl hl.1 (Nat.le_of_ble_eq_true rfl) ⟨Nat.zero_le _, Nat.zero_le _⟩ dX6_digest_18 (fun f_7 H locs hp hw => ?_)
  have eu := hp
  have ef_7 : f_7 = va_up (va_up f_4 302 (.inr (7, mO ad 0 (n 0) (n 1) (n 2) (g 13 0) (n 3) (n 4) (n 5) (n 1)))) 319 (ai (ca 1) 320 (cpB (z 0) (g 0) (n 1))) := eu
  have c_302 : f_7 302 = .inr (7, mO ad 0 (n 0) (n 1) (n 2) (g 13 0) (n 3) (n 4) (n 5) (n 1)) := by rw [ef_7, va_up_ne _ _ (by decide), va_up_self]
  have c_319 : f_7 319 = ai (ca 1) 320 (cpB (z 0) (g 0) (n 1)) := by rw [ef_7, va_up_self]
  refine lv_iload_n hx hb dX6_digest_21 rfl (lv_at hl 1 rfl) ?_
  refine lv_if_ne (tgt := 32) hx hb dX6_digest_22 (by decide) (fun h => False.elim (h (by decide))) (fun _ => ?_)
  refine lv_aload_n hx hb dX6_digest_25 rfl (lv_at hl 0 rfl) ?_
  have c_320 : f_7 320 = ai (ca 1) 36 (z 1) := by rw [ef_7, va_up_ne _ _ (by decide), va_up_ne _ _ (by decide), ef_4, va_up_ne _ _ (by decide)]; exact c_320
  have c_321 : f_7 321 = ai (ca 0) 64 (z 2) := by rw [ef_7, va_up_ne _ _ (by decide), va_up_ne _ _ (by decide), ef_4, va_up_ne _ _ (by decide)]; exact c_321
  have c_322 : f_7 322 = ai (ca 0) 8 (z 3) := by rw [ef_7, va_up_ne _ _ (by decide), va_up_ne _ _ (by decide), ef_4, va_up_ne _ _ (by decide)]; exact c_322
  have c_323 : f_7 323 = ai (ca 0) 8 (z 4) := by rw [ef_7, va_up_ne _ _ (by decide), va_up_ne _ _ (by decide), ef_4, va_up_ne _ _ (by decide)]; exact c_323
  have c_324 : f_7 324 = ai (ca 0) 8 shR := by rw [ef_7, va_up_ne _ _ (by decide), va_up_ne _ _ (by decide), ef_4, va_up_ne _ _ (by decide)]; exact c_324
  have c_325 : f_7 325 = ai (ca 0) 64 shK := by rw [ef_7, va_up_ne _ _ (by decide), va_up_ne _ _ (by decide), ef_4, va_up_ne _ _ (by decide)]; exact c_325
  refine x_Vv (q := 302) (As := []) (rest := []) ⟨hx, hb, hml, hown, hts⟩ (k_X6_long1 l D ca N ad B tR tK f_7 dd 0 (n 0) (n 1) (n 2) (g 13 0) (n 3) (n 4) (n 5) (n 1) (cpB (z 0) (g 0) (n 1)) (z 1) (z 2) (z 3) (z 4) c_302 c_319 c_320 c_321 c_322 c_323 c_324 c_325  (by omega) (by omega)) (cwV 0 hts gX6_digest_X6_long1 rfl rfl rfl (by decide +kernel) ⟨Nat.le_of_ble_eq_true rfl, Nat.le_of_ble_eq_true rfl⟩) hK hE hB hw (by omega) c_302 rfl rfl rfl rfl hl.1 (Nat.le_of_ble_eq_true rfl) ⟨Nat.zero_le _, Nat.zero_le _⟩ dX6_digest_26 (fun f_9 H locs hp hw => ?_)
  obtain ⟨b1_11, w1_12, v1_13, h1_14, hq_15, eu⟩ := hp
  have ef_9 : f_9 = va_up (va_up (va_up (va_up (va_up f_7 319 (ai (ca 1) 320 b1_11)) 321 (ai (ca 0) 64 w1_12)) 323 (ai (ca 0) 8 v1_13)) 322 (ai (ca 0) 8 h1_14)) 320 (ai (ca 1) 36 (mkf (z 1) (sha (n 1) (fun i7 => (cpB (z 0) (g 0) (n 1)) i7 &&& nI 255)) 32)) := eu
  have c_319 : f_9 319 = ai (ca 1) 320 b1_11 := by rw [ef_9, va_up_ne _ _ (by decide), va_up_ne _ _ (by decide), va_up_ne _ _ (by decide), va_up_ne _ _ (by decide), va_up_self]
  have c_321 : f_9 321 = ai (ca 0) 64 w1_12 := by rw [ef_9, va_up_ne _ _ (by decide), va_up_ne _ _ (by decide), va_up_ne _ _ (by decide), va_up_self]
  have c_323 : f_9 323 = ai (ca 0) 8 v1_13 := by rw [ef_9, va_up_ne _ _ (by decide), va_up_ne _ _ (by decide), va_up_self]
  have c_322 : f_9 322 = ai (ca 0) 8 h1_14 := by rw [ef_9, va_up_ne _ _ (by decide), va_up_self]
  have c_320 : f_9 320 = ai (ca 1) 36 (mkf (z 1) (sha (n 1) (fun i7 => (cpB (z 0) (g 0) (n 1)) i7 &&& nI 255)) 32) := by rw [ef_9, va_up_self]
  have c_320 : f_9 320 = ai (ca 1) 36 (mkf (z 1) (sha (n 1) (fun x => g 0 x &&& nI 255)) 32) := by rw [c_320]; rw [sha_ext (g := fun i7 => cpB (z 0) (g 0) (n 1) i7 &&& nI 255) (g' := fun x => g 0 x &&& nI 255) (fun q hq => cpB_at hq)]
  refine lv_goto (tgt := 36) hx hb dX6_digest_29 (by decide) ?_
  refine lv_aload_n hx hb dX6_digest_36 rfl (lv_at hl 0 rfl) ?_
  refine lv_iload_n hx hb dX6_digest_37 rfl (lv_at hl 1 rfl) ?_
  refine lv_if_ne (tgt := 46) hx hb dX6_digest_38 (by decide) (fun h => False.elim (h (by decide))) (fun _ => ?_)
  refine lv_bipush (v := nI 32) hx hb dX6_digest_41 (by decide) ?_
  refine lv_goto (tgt := 47) hx hb dX6_digest_43 (by decide) ?_
  have c_302 : f_9 302 = .inr (7, mO ad 0 (n 0) (n 1) (n 2) (g 13 0) (n 3) (n 4) (n 5) (n 1)) := by rw [ef_9, va_up_ne _ _ (by decide), va_up_ne _ _ (by decide), va_up_ne _ _ (by decide), va_up_ne _ _ (by decide), va_up_ne _ _ (by decide)]; exact c_302
  refine x_put (ci := 7) (C := RX6) (T := TX6) (n := 32) (ref := RX6) (fs' := mO ad 0 (n 0) (n 1) (n 2) (g 13 0) (n 3) (n 4) 32 (n 1)) hx hb hts hin_7 tyX6 tyX6_ok nmX6 hown hK dd hw 302 (by omega) c_302 rfl 22 (by decide) hf_215 (fun _ h => h) rfl rfl rfl (Nat.le_of_ble_eq_true rfl) rfl dX6_digest_47 (fun H locs hw => ?_)
  obtain ⟨f_16, ef_16⟩ : ∃ z, z = va_up f_9 302 (.inr (7, mO ad 0 (n 0) (n 1) (n 2) (g 13 0) (n 3) (n 4) 32 (n 1))) := ⟨_, rfl⟩
  have hw : xw D vwCl N ad B s.heap f_16 H locs := by rw [ef_16]; exact hw
  have c_302 : f_16 302 = .inr (7, mO ad 0 (n 0) (n 1) (n 2) (g 13 0) (n 3) (n 4) 32 (n 1)) := va_up_of ef_16
  refine lv_iconst (v := nI 0) hx hb dX6_digest_50 (by decide) ?_
  refine lv_istore_n (lv' := [(2, .int (nI 0)), (0, .ref (ad 302)), (1, .int (nI 0))]) hx hb dX6_digest_51 rfl hl (by decide) rfl (fun ls hl => ?_)
  have hw : xw D vwCl N ad B s.heap (va_up (va_up (va_up (va_up (va_up (va_up (va_up f 302 (.inr (7, mO ad 0 (n 0) (n 1) (n 2) (g 13 0) (n 3) (n 4) 32 (n 1)))) 319 (ai (ca 1) 320 b1_11)) 321 (ai (ca 0) 64 w1_12)) 323 (ai (ca 0) 8 v1_13)) 322 (ai (ca 0) 8 h1_14)) 320 (ai (ca 1) 36 (mkf (z 1) (sha (n 1) (fun x => g 0 x &&& nI 255)) 32))) 318 (ai (ca 1) 32 (cpB (g 16) (mkf (z 1) (sha (n 1) (fun x => g 0 x &&& nI 255)) 32) 0))) H locs := by
    have ez : f_16 = va_up (va_up (va_up (va_up (va_up (va_up (va_up f 302 (.inr (7, mO ad 0 (n 0) (n 1) (n 2) (g 13 0) (n 3) (n 4) 32 (n 1)))) 319 (ai (ca 1) 320 b1_11)) 321 (ai (ca 0) 64 w1_12)) 323 (ai (ca 0) 8 v1_13)) 322 (ai (ca 0) 8 h1_14)) 320 (ai (ca 1) 36 (mkf (z 1) (sha (n 1) (fun x => g 0 x &&& nI 255)) 32))) 318 (ai (ca 1) 32 (cpB (g 16) (mkf (z 1) (sha (n 1) (fun x => g 0 x &&& nI 255)) 32) 0)) := by rw [cpB_0, ← (sha_ext (g := fun i7 => cpB (z 0) (g 0) (n 1) i7 &&& nI 255) (g' := fun x => g 0 x &&& nI 255) (fun q hq => cpB_at hq))]; simp only [ef_16, ef_9, ef_7, ef_4, up_dg]; exact (up_noop (by simp only [va_up]; exact b_318)).symm
    rw [← ez]; exact hw
  exact P_52 33 b1_11 w1_12 v1_13 h1_14 0 _ _ _ (by omega) (by omega) hw (lv_sub hl [1, 2, 0] rfl)

set_option maxHeartbeats 4000000 in
set_option maxRecDepth 100000 in
theorem k_X6_digest_a1 (l : Launch) (D : va_G) (ca : Nat → ClassId) (N : Nat) (ad : Nat → Nat) (B tR tK : Nat) (f : Nat → va_E) (dd : xD N ad B) (hN : 326 ≤ N) (n : Nat → Nat) (g : Nat → Nat → Int32) (z : Nat → Nat → Int32) (zn : Nat) (tb : Nat → Int32) (hR : RepM ca ad n g z zn tb f)  (h4 : n 1 ≤ 200) : xMi l yX6_digest wsX6_digest rmX6_digest [.ref (ad 302), .int (nI 1)] D ca N ad B tR tK f (fun r u => nI 4 = r ∧ ∃ (z1 : Nat → Nat → Int32) (zn1 : Nat), RepM ca ad (va_up (va_up n 7 0) 5 4) (va_up g 16 (shS (g 16) (crM (g 0) (n 1) ^^^ (-1)))) z1 zn1 tb u ∧ ∀ y, (y < 302 ∨ 326 ≤ y) → u y = f y) := by
  refine x_open (cc := cX6_digest) (maxL := 3) (ret := (some .int)) (by decide) rfl (Nat.le_of_ble_eq_true rfl) ?_
  intro p e s m below meth c ls hx hb hml hown hts hr hlocks hnm hB hK hE hw hl
  have hown : s.vm.findClass RX6 = some m.cls := hown
  have hl : lv_has ls 3 [(0, .ref (ad 302)), (1, .int (nI 1))] := hl
  obtain ⟨c_302, c_303, c_304, c_305, c_306, c_307, c_308, c_309, c_310, c_311, c_312, c_313, c_314, c_315, c_316, c_317, c_318, c_319, c_320, c_321, c_322, c_323, c_324, c_325, hzn⟩ := hR
  have hin_7 : ∀ w ∈ u_ws RX6 TX6 32, w ∈ wsX6_digest := by decide +kernel
  have hf_215 := hts (.fieldLink RX6 215 "FixityRowsModel" "shown" "I") (by decide +kernel)
  have hf_61 := hts (.fieldLink RX6 61 "FixityRowsModel" "show" "[B") (by decide +kernel)
  have hf_67 := hts (.fieldLink RX6 67 "FixityRowsModel" "made" "[B") (by decide +kernel)
  have hf_160 := hts (.fieldLink RX6 160 "FixityRowsModel" "thrown" "I") (by decide +kernel)
  have b_302 := c_302
  have b_303 := c_303
  have b_304 := c_304
  have b_305 := c_305
  have b_306 := c_306
  have b_307 := c_307
  have b_308 := c_308
  have b_309 := c_309
  have b_310 := c_310
  have b_311 := c_311
  have b_312 := c_312
  have b_313 := c_313
  have b_314 := c_314
  have b_315 := c_315
  have b_316 := c_316
  have b_317 := c_317
  have b_318 := c_318
  have b_319 := c_319
  have b_320 := c_320
  have b_321 := c_321
  have b_322 := c_322
  have b_323 := c_323
  have b_324 := c_324
  have b_325 := c_325
  have P_89 : ∀ (H : Heap) (locs : List Loc) (ls : Array Slot), xw D vwCl N ad B s.heap (va_up (va_up (va_up (va_up f 302 (.inr (7, mO ad 0 (n 0) (n 1) (n 2) (g 13 0) (n 3) (n 4) 4 (n 1)))) 319 (ai (ca 1) 320 (cpB (z 0) (g 0) (n 1)))) 320 (ai (ca 1) 36 (mkS (z 1) (crM (g 0) (n 1) ^^^ (-1)) 4))) 318 (ai (ca 1) 32 (shS (g 16) (crM (g 0) (n 1) ^^^ (-1))))) H locs → lv_has ls 3 [(0, .ref (ad 302))] → W p l e rmX6_digest s m ([.ref (ad 302), .int (nI 1)] : List Value).toArray below meth c H locs 0 0 (MQ below (xQi (fun r u => nI 4 = r ∧ ∃ (z1 : Nat → Nat → Int32) (zn1 : Nat), RepM ca ad (va_up (va_up n 7 0) 5 4) (va_up g 16 (shS (g 16) (crM (g 0) (n 1) ^^^ (-1)))) z1 zn1 tb u ∧ ∀ y, (y < 302 ∨ 326 ≤ y) → u y = f y) D N ad B) ([.ref (ad 302), .int (nI 1)] : List Value).toArray s 0 0 (xA B)) (F0 m 89 ls []) := by
    intro H locs ls hw hl
    have c_302 := b_302
    have c_303 := b_303
    have c_304 := b_304
    have c_305 := b_305
    have c_306 := b_306
    have c_307 := b_307
    have c_308 := b_308
    have c_309 := b_309
    have c_310 := b_310
    have c_311 := b_311
    have c_312 := b_312
    have c_313 := b_313
    have c_314 := b_314
    have c_315 := b_315
    have c_316 := b_316
    have c_317 := b_317
    have c_318 := b_318
    have c_319 := b_319
    have c_320 := b_320
    have c_321 := b_321
    have c_322 := b_322
    have c_323 := b_323
    have c_324 := b_324
    have c_325 := b_325
    obtain ⟨f_1, ef_1⟩ : ∃ zq9, zq9 = va_up (va_up (va_up (va_up f 302 (.inr (7, mO ad 0 (n 0) (n 1) (n 2) (g 13 0) (n 3) (n 4) 4 (n 1)))) 319 (ai (ca 1) 320 (cpB (z 0) (g 0) (n 1)))) 320 (ai (ca 1) 36 (mkS (z 1) (crM (g 0) (n 1) ^^^ (-1)) 4))) 318 (ai (ca 1) 32 (shS (g 16) (crM (g 0) (n 1) ^^^ (-1)))) := ⟨_, rfl⟩
    have hw : xw D vwCl N ad B s.heap f_1 H locs := by rw [ef_1]; exact hw
    have c_302 : f_1 302 = .inr (7, mO ad 0 (n 0) (n 1) (n 2) (g 13 0) (n 3) (n 4) 4 (n 1)) := by rw [ef_1, va_up_ne _ _ (by decide), va_up_ne _ _ (by decide), va_up_ne _ _ (by decide), va_up_self]
    have c_319 : f_1 319 = ai (ca 1) 320 (cpB (z 0) (g 0) (n 1)) := by rw [ef_1, va_up_ne _ _ (by decide), va_up_ne _ _ (by decide), va_up_self]
    have c_320 : f_1 320 = ai (ca 1) 36 (mkS (z 1) (crM (g 0) (n 1) ^^^ (-1)) 4) := by rw [ef_1, va_up_ne _ _ (by decide), va_up_self]
    have c_318 : f_1 318 = ai (ca 1) 32 (shS (g 16) (crM (g 0) (n 1) ^^^ (-1))) := by rw [ef_1, va_up_self]
    refine lv_aload_n hx hb dX6_digest_89 rfl (lv_at hl 0 rfl) ?_
    refine x_get (ci := 7) (C := RX6) (T := TX6) (n := 32) (ref := RX6) hx hb hts hin_7 hown hK hw 302 (by omega) c_302 rfl 22 (by decide) hf_215 (fun _ h => h) rfl dX6_digest_90 ?_
    have c_303 : f_1 303 = ai (ca 1) 200 (g 0) := by rw [ef_1, va_up_ne _ _ (by decide), va_up_ne _ _ (by decide), va_up_ne _ _ (by decide), va_up_ne _ _ (by decide)]; exact c_303
    have c_304 : f_1 304 = ai (ca 1) 4000 (g 1) := by rw [ef_1, va_up_ne _ _ (by decide), va_up_ne _ _ (by decide), va_up_ne _ _ (by decide), va_up_ne _ _ (by decide)]; exact c_304
    have c_305 : f_1 305 = ai (ca 0) 20 (g 2) := by rw [ef_1, va_up_ne _ _ (by decide), va_up_ne _ _ (by decide), va_up_ne _ _ (by decide), va_up_ne _ _ (by decide)]; exact c_305
    have c_306 : f_1 306 = ai (ca 0) 20 (g 3) := by rw [ef_1, va_up_ne _ _ (by decide), va_up_ne _ _ (by decide), va_up_ne _ _ (by decide), va_up_ne _ _ (by decide)]; exact c_306
    have c_307 : f_1 307 = ai (ca 1) 720 (g 4) := by rw [ef_1, va_up_ne _ _ (by decide), va_up_ne _ _ (by decide), va_up_ne _ _ (by decide), va_up_ne _ _ (by decide)]; exact c_307
    have c_308 : f_1 308 = ai (ca 0) 20 (g 5) := by rw [ef_1, va_up_ne _ _ (by decide), va_up_ne _ _ (by decide), va_up_ne _ _ (by decide), va_up_ne _ _ (by decide)]; exact c_308
    have c_309 : f_1 309 = ai (ca 0) 20 (g 6) := by rw [ef_1, va_up_ne _ _ (by decide), va_up_ne _ _ (by decide), va_up_ne _ _ (by decide), va_up_ne _ _ (by decide)]; exact c_309
    have c_310 : f_1 310 = ai (ca 0) 20 (g 7) := by rw [ef_1, va_up_ne _ _ (by decide), va_up_ne _ _ (by decide), va_up_ne _ _ (by decide), va_up_ne _ _ (by decide)]; exact c_310
    have c_311 : f_1 311 = ai (ca 0) 20 (g 8) := by rw [ef_1, va_up_ne _ _ (by decide), va_up_ne _ _ (by decide), va_up_ne _ _ (by decide), va_up_ne _ _ (by decide)]; exact c_311
    have c_312 : f_1 312 = ai (ca 0) 20 (g 9) := by rw [ef_1, va_up_ne _ _ (by decide), va_up_ne _ _ (by decide), va_up_ne _ _ (by decide), va_up_ne _ _ (by decide)]; exact c_312
    have c_313 : f_1 313 = ai (ca 2) 20 (g 10) := by rw [ef_1, va_up_ne _ _ (by decide), va_up_ne _ _ (by decide), va_up_ne _ _ (by decide), va_up_ne _ _ (by decide)]; exact c_313
    have c_314 : f_1 314 = ai (ca 0) 200 (g 11) := by rw [ef_1, va_up_ne _ _ (by decide), va_up_ne _ _ (by decide), va_up_ne _ _ (by decide), va_up_ne _ _ (by decide)]; exact c_314
    have c_315 : f_1 315 = ai (ca 0) 200 (g 12) := by rw [ef_1, va_up_ne _ _ (by decide), va_up_ne _ _ (by decide), va_up_ne _ _ (by decide), va_up_ne _ _ (by decide)]; exact c_315
    have c_316 : f_1 316 = ai (ca 0) 200 (g 14) := by rw [ef_1, va_up_ne _ _ (by decide), va_up_ne _ _ (by decide), va_up_ne _ _ (by decide), va_up_ne _ _ (by decide)]; exact c_316
    have c_317 : f_1 317 = ai (ca 1) 6400 (g 15) := by rw [ef_1, va_up_ne _ _ (by decide), va_up_ne _ _ (by decide), va_up_ne _ _ (by decide), va_up_ne _ _ (by decide)]; exact c_317
    have c_321 : f_1 321 = ai (ca 0) 64 (z 2) := by rw [ef_1, va_up_ne _ _ (by decide), va_up_ne _ _ (by decide), va_up_ne _ _ (by decide), va_up_ne _ _ (by decide)]; exact c_321
    have c_322 : f_1 322 = ai (ca 0) 8 (z 3) := by rw [ef_1, va_up_ne _ _ (by decide), va_up_ne _ _ (by decide), va_up_ne _ _ (by decide), va_up_ne _ _ (by decide)]; exact c_322
    have c_323 : f_1 323 = ai (ca 0) 8 (z 4) := by rw [ef_1, va_up_ne _ _ (by decide), va_up_ne _ _ (by decide), va_up_ne _ _ (by decide), va_up_ne _ _ (by decide)]; exact c_323
    have c_324 : f_1 324 = ai (ca 0) 8 shR := by rw [ef_1, va_up_ne _ _ (by decide), va_up_ne _ _ (by decide), va_up_ne _ _ (by decide), va_up_ne _ _ (by decide)]; exact c_324
    have c_325 : f_1 325 = ai (ca 0) 64 shK := by rw [ef_1, va_up_ne _ _ (by decide), va_up_ne _ _ (by decide), va_up_ne _ _ (by decide), va_up_ne _ _ (by decide)]; exact c_325
    have qn_0 : (va_up (va_up n 7 0) 5 4) 0 = n 0 := by rw [va_up_ne _ _ (by decide), va_up_ne _ _ (by decide)]
    have qn_1 : (va_up (va_up n 7 0) 5 4) 1 = n 1 := by rw [va_up_ne _ _ (by decide), va_up_ne _ _ (by decide)]
    have qn_2 : (va_up (va_up n 7 0) 5 4) 2 = n 2 := by rw [va_up_ne _ _ (by decide), va_up_ne _ _ (by decide)]
    have qn_3 : (va_up (va_up n 7 0) 5 4) 3 = n 3 := by rw [va_up_ne _ _ (by decide), va_up_ne _ _ (by decide)]
    have qn_4 : (va_up (va_up n 7 0) 5 4) 4 = n 4 := by rw [va_up_ne _ _ (by decide), va_up_ne _ _ (by decide)]
    have qn_5 : (va_up (va_up n 7 0) 5 4) 5 = 4 := by rw [va_up_self]
    have qn_6 : (va_up (va_up n 7 0) 5 4) 6 = n 6 := by rw [va_up_ne _ _ (by decide), va_up_ne _ _ (by decide)]
    have qn_7 : (va_up (va_up n 7 0) 5 4) 7 = 0 := by rw [va_up_ne _ _ (by decide), va_up_self]
    have qg_0 : (va_up g 16 (shS (g 16) (crM (g 0) (n 1) ^^^ (-1)))) 0 = g 0 := by rw [va_up_ne _ _ (by decide)]
    have qg_1 : (va_up g 16 (shS (g 16) (crM (g 0) (n 1) ^^^ (-1)))) 1 = g 1 := by rw [va_up_ne _ _ (by decide)]
    have qg_2 : (va_up g 16 (shS (g 16) (crM (g 0) (n 1) ^^^ (-1)))) 2 = g 2 := by rw [va_up_ne _ _ (by decide)]
    have qg_3 : (va_up g 16 (shS (g 16) (crM (g 0) (n 1) ^^^ (-1)))) 3 = g 3 := by rw [va_up_ne _ _ (by decide)]
    have qg_4 : (va_up g 16 (shS (g 16) (crM (g 0) (n 1) ^^^ (-1)))) 4 = g 4 := by rw [va_up_ne _ _ (by decide)]
    have qg_5 : (va_up g 16 (shS (g 16) (crM (g 0) (n 1) ^^^ (-1)))) 5 = g 5 := by rw [va_up_ne _ _ (by decide)]
    have qg_6 : (va_up g 16 (shS (g 16) (crM (g 0) (n 1) ^^^ (-1)))) 6 = g 6 := by rw [va_up_ne _ _ (by decide)]
    have qg_7 : (va_up g 16 (shS (g 16) (crM (g 0) (n 1) ^^^ (-1)))) 7 = g 7 := by rw [va_up_ne _ _ (by decide)]
    have qg_8 : (va_up g 16 (shS (g 16) (crM (g 0) (n 1) ^^^ (-1)))) 8 = g 8 := by rw [va_up_ne _ _ (by decide)]
    have qg_9 : (va_up g 16 (shS (g 16) (crM (g 0) (n 1) ^^^ (-1)))) 9 = g 9 := by rw [va_up_ne _ _ (by decide)]
    have qg_10 : (va_up g 16 (shS (g 16) (crM (g 0) (n 1) ^^^ (-1)))) 10 = g 10 := by rw [va_up_ne _ _ (by decide)]
    have qg_11 : (va_up g 16 (shS (g 16) (crM (g 0) (n 1) ^^^ (-1)))) 11 = g 11 := by rw [va_up_ne _ _ (by decide)]
    have qg_12 : (va_up g 16 (shS (g 16) (crM (g 0) (n 1) ^^^ (-1)))) 12 = g 12 := by rw [va_up_ne _ _ (by decide)]
    have qg_13 : (va_up g 16 (shS (g 16) (crM (g 0) (n 1) ^^^ (-1)))) 13 = g 13 := by rw [va_up_ne _ _ (by decide)]
    have qg_14 : (va_up g 16 (shS (g 16) (crM (g 0) (n 1) ^^^ (-1)))) 14 = g 14 := by rw [va_up_ne _ _ (by decide)]
    have qg_15 : (va_up g 16 (shS (g 16) (crM (g 0) (n 1) ^^^ (-1)))) 15 = g 15 := by rw [va_up_ne _ _ (by decide)]
    have qg_16 : (va_up g 16 (shS (g 16) (crM (g 0) (n 1) ^^^ (-1)))) 16 = shS (g 16) (crM (g 0) (n 1) ^^^ (-1)) := by rw [va_up_self]
    have qz_0 : (va_up (va_up z 0 (cpB (z 0) (g 0) (n 1))) 1 (mkS (z 1) (crM (g 0) (n 1) ^^^ (-1)) 4)) 0 = cpB (z 0) (g 0) (n 1) := by rw [va_up_ne _ _ (by decide), va_up_self]
    have qz_1 : (va_up (va_up z 0 (cpB (z 0) (g 0) (n 1))) 1 (mkS (z 1) (crM (g 0) (n 1) ^^^ (-1)) 4)) 1 = mkS (z 1) (crM (g 0) (n 1) ^^^ (-1)) 4 := by rw [va_up_self]
    have qz_2 : (va_up (va_up z 0 (cpB (z 0) (g 0) (n 1))) 1 (mkS (z 1) (crM (g 0) (n 1) ^^^ (-1)) 4)) 2 = z 2 := by rw [va_up_ne _ _ (by decide), va_up_ne _ _ (by decide)]
    have qz_3 : (va_up (va_up z 0 (cpB (z 0) (g 0) (n 1))) 1 (mkS (z 1) (crM (g 0) (n 1) ^^^ (-1)) 4)) 3 = z 3 := by rw [va_up_ne _ _ (by decide), va_up_ne _ _ (by decide)]
    have qz_4 : (va_up (va_up z 0 (cpB (z 0) (g 0) (n 1))) 1 (mkS (z 1) (crM (g 0) (n 1) ^^^ (-1)) 4)) 4 = z 4 := by rw [va_up_ne _ _ (by decide), va_up_ne _ _ (by decide)]
    have hRz : RepM ca ad (va_up (va_up n 7 0) 5 4) (va_up g 16 (shS (g 16) (crM (g 0) (n 1) ^^^ (-1)))) (va_up (va_up z 0 (cpB (z 0) (g 0) (n 1))) 1 (mkS (z 1) (crM (g 0) (n 1) ^^^ (-1)) 4)) (n 1) tb f_1 := ⟨(by rw [qn_7, qn_0, qn_1, qn_2, qn_3, qn_4, qn_5, qg_13]; exact c_302),
          (by rw [qg_0]; exact c_303),
          (by rw [qg_1]; exact c_304),
          (by rw [qg_2]; exact c_305),
          (by rw [qg_3]; exact c_306),
          (by rw [qg_4]; exact c_307),
          (by rw [qg_5]; exact c_308),
          (by rw [qg_6]; exact c_309),
          (by rw [qg_7]; exact c_310),
          (by rw [qg_8]; exact c_311),
          (by rw [qg_9]; exact c_312),
          (by rw [qg_10]; exact c_313),
          (by rw [qg_11]; exact c_314),
          (by rw [qg_12]; exact c_315),
          (by rw [qg_14]; exact c_316),
          (by rw [qg_15]; exact c_317),
          (by rw [qg_16]; exact c_318),
          (by rw [qz_0]; exact c_319),
          (by rw [qz_1]; exact c_320),
          (by rw [qz_2]; exact c_321),
          (by rw [qz_3]; exact c_322),
          (by rw [qz_4]; exact c_323),
          c_324,
          c_325, (by first | omega | assumption)⟩
    exact x_iret hx hb hr hlocks hw ⟨rfl, va_up (va_up z 0 (cpB (z 0) (g 0) (n 1))) 1 (mkS (z 1) (crM (g 0) (n 1) ^^^ (-1)) 4), n 1, hRz, (fun y hy => by rw [ef_1, va_up_ne _ _ (by omega), va_up_ne _ _ (by omega), va_up_ne _ _ (by omega), va_up_ne _ _ (by omega)])⟩ dX6_digest_93
  have P_52 : ∀ (n_52 : Nat) (k : Nat) (H : Heap) (locs : List Loc) (ls : Array Slot), 4 + 1 ≤ k + n_52 → (k ≤ 4) → xw D vwCl N ad B s.heap (va_up (va_up (va_up (va_up f 302 (.inr (7, mO ad 0 (n 0) (n 1) (n 2) (g 13 0) (n 3) (n 4) 4 (n 1)))) 319 (ai (ca 1) 320 (cpB (z 0) (g 0) (n 1)))) 320 (ai (ca 1) 36 (mkS (z 1) (crM (g 0) (n 1) ^^^ (-1)) 4))) 318 (ai (ca 1) 32 (cpB (g 16) (fun x => mkS (z 1) (crM (g 0) (n 1) ^^^ (-1)) 4 (32 + x)) k))) H locs → lv_has ls 3 [(0, .ref (ad 302)), (1, .int (nI 1)), (2, .int (nI k))] → W p l e rmX6_digest s m ([.ref (ad 302), .int (nI 1)] : List Value).toArray below meth c H locs 0 0 (MQ below (xQi (fun r u => nI 4 = r ∧ ∃ (z1 : Nat → Nat → Int32) (zn1 : Nat), RepM ca ad (va_up (va_up n 7 0) 5 4) (va_up g 16 (shS (g 16) (crM (g 0) (n 1) ^^^ (-1)))) z1 zn1 tb u ∧ ∀ y, (y < 302 ∨ 326 ≤ y) → u y = f y) D N ad B) ([.ref (ad 302), .int (nI 1)] : List Value).toArray s 0 0 (xA B)) (F0 m 52 ls []) := by
    intro n_52
    induction n_52 with
    | zero =>
      intro k H locs ls hm_52 hk hw hl
      exact absurd hm_52 (by omega)
    | succ n_52 ih_52 =>
      intro k H locs ls hm_52 hk hw hl
      have c_302 := b_302
      have c_303 := b_303
      have c_304 := b_304
      have c_305 := b_305
      have c_306 := b_306
      have c_307 := b_307
      have c_308 := b_308
      have c_309 := b_309
      have c_310 := b_310
      have c_311 := b_311
      have c_312 := b_312
      have c_313 := b_313
      have c_314 := b_314
      have c_315 := b_315
      have c_316 := b_316
      have c_317 := b_317
      have c_318 := b_318
      have c_319 := b_319
      have c_320 := b_320
      have c_321 := b_321
      have c_322 := b_322
      have c_323 := b_323
      have c_324 := b_324
      have c_325 := b_325
      obtain ⟨f_2, ef_2⟩ : ∃ zq9, zq9 = va_up (va_up (va_up (va_up f 302 (.inr (7, mO ad 0 (n 0) (n 1) (n 2) (g 13 0) (n 3) (n 4) 4 (n 1)))) 319 (ai (ca 1) 320 (cpB (z 0) (g 0) (n 1)))) 320 (ai (ca 1) 36 (mkS (z 1) (crM (g 0) (n 1) ^^^ (-1)) 4))) 318 (ai (ca 1) 32 (cpB (g 16) (fun x => mkS (z 1) (crM (g 0) (n 1) ^^^ (-1)) 4 (32 + x)) k)) := ⟨_, rfl⟩
      have hw : xw D vwCl N ad B s.heap f_2 H locs := by rw [ef_2]; exact hw
      have c_302 : f_2 302 = .inr (7, mO ad 0 (n 0) (n 1) (n 2) (g 13 0) (n 3) (n 4) 4 (n 1)) := by rw [ef_2, va_up_ne _ _ (by decide), va_up_ne _ _ (by decide), va_up_ne _ _ (by decide), va_up_self]
      have c_319 : f_2 319 = ai (ca 1) 320 (cpB (z 0) (g 0) (n 1)) := by rw [ef_2, va_up_ne _ _ (by decide), va_up_ne _ _ (by decide), va_up_self]
      have c_320 : f_2 320 = ai (ca 1) 36 (mkS (z 1) (crM (g 0) (n 1) ^^^ (-1)) 4) := by rw [ef_2, va_up_ne _ _ (by decide), va_up_self]
      have c_318 : f_2 318 = ai (ca 1) 32 (cpB (g 16) (fun x => mkS (z 1) (crM (g 0) (n 1) ^^^ (-1)) 4 (32 + x)) k) := by rw [ef_2, va_up_self]
      refine lv_iload_n hx hb dX6_digest_52 rfl (lv_at hl 2 rfl) ?_
      refine lv_aload_n hx hb dX6_digest_53 rfl (lv_at hl 0 rfl) ?_
      refine x_get (ci := 7) (C := RX6) (T := TX6) (n := 32) (ref := RX6) hx hb hts hin_7 hown hK hw 302 (by omega) c_302 rfl 22 (by decide) hf_215 (fun _ h => h) rfl dX6_digest_54 ?_
      refine n_icge (tgt := 89) hx hb dX6_digest_57 (by decide) (by omega) (by omega) (fun hc_57 => ?_) (fun hc_57 => ?_)
      · have hw : xw D vwCl N ad B s.heap (va_up (va_up (va_up (va_up f 302 (.inr (7, mO ad 0 (n 0) (n 1) (n 2) (g 13 0) (n 3) (n 4) 4 (n 1)))) 319 (ai (ca 1) 320 (cpB (z 0) (g 0) (n 1)))) 320 (ai (ca 1) 36 (mkS (z 1) (crM (g 0) (n 1) ^^^ (-1)) 4))) 318 (ai (ca 1) 32 (shS (g 16) (crM (g 0) (n 1) ^^^ (-1))))) H locs := by
          have ez : f_2 = va_up (va_up (va_up (va_up f 302 (.inr (7, mO ad 0 (n 0) (n 1) (n 2) (g 13 0) (n 3) (n 4) 4 (n 1)))) 319 (ai (ca 1) 320 (cpB (z 0) (g 0) (n 1)))) 320 (ai (ca 1) 36 (mkS (z 1) (crM (g 0) (n 1) ^^^ (-1)) 4))) 318 (ai (ca 1) 32 (shS (g 16) (crM (g 0) (n 1) ^^^ (-1)))) := by have ek : k = 4 := (by omega); subst ek; rw [← cpB_mkS (g 16) (z 1)]; simp only [ef_2]
          rw [← ez]; exact hw
        exact P_89  _ _ _  hw (lv_sub hl [0] rfl)
      · refine lv_aload_n hx hb dX6_digest_60 rfl (lv_at hl 0 rfl) ?_
        refine x_get (ci := 7) (C := RX6) (T := TX6) (n := 32) (ref := RX6) hx hb hts hin_7 hown hK hw 302 (by omega) c_302 rfl 23 (by decide) hf_61 (fun _ h => h) rfl dX6_digest_61 ?_
        refine lv_iload_n hx hb dX6_digest_64 rfl (lv_at hl 2 rfl) ?_
        refine lv_aload_n hx hb dX6_digest_65 rfl (lv_at hl 0 rfl) ?_
        refine x_get (ci := 7) (C := RX6) (T := TX6) (n := 32) (ref := RX6) hx hb hts hin_7 hown hK hw 302 (by omega) c_302 rfl 26 (by decide) hf_67 (fun _ h => h) rfl dX6_digest_66 ?_
        refine lv_iload_n hx hb dX6_digest_69 rfl (lv_at hl 1 rfl) ?_
        refine lv_if_ne (tgt := 77) hx hb dX6_digest_70 (by decide) (fun _ => ?_) (fun h => absurd h (by decide))
        refine lv_bipush (v := nI 32) hx hb dX6_digest_77 (by decide) ?_
        refine lv_iload_n hx hb dX6_digest_79 rfl (lv_at hl 2 rfl) ?_
        refine n_iadd hx hb dX6_digest_80 ?_
        refine x_bald (j := 32 + k) hx hb hK hw 320 1 (by omega) c_320 rfl rfl (by omega) (by decide) dX6_digest_81 ?_
        refine x_bast (j := k) (y := ((mkS (z 1) (crM (g 0) (n 1) ^^^ (-1)) 4) (32 + k)).toInt8.toInt32) hx hb hK dd hw 318 1 (by omega) c_318 rfl rfl (by omega) (by decide) rfl dX6_digest_82 (fun H locs hw => ?_)
        obtain ⟨f_3, ef_3⟩ : ∃ zq9, zq9 = va_up f_2 318 (ai (ca 1) 32 (upd (cpB (g 16) (fun x => mkS (z 1) (crM (g 0) (n 1) ^^^ (-1)) 4 (32 + x)) k) k (((mkS (z 1) (crM (g 0) (n 1) ^^^ (-1)) 4) (32 + k)).toInt8.toInt32))) := ⟨_, rfl⟩
        have hw : xw D vwCl N ad B s.heap f_3 H locs := by rw [ef_3]; exact hw
        have c_318 : f_3 318 = ai (ca 1) 32 (upd (cpB (g 16) (fun x => mkS (z 1) (crM (g 0) (n 1) ^^^ (-1)) 4 (32 + x)) k) k (((mkS (z 1) (crM (g 0) (n 1) ^^^ (-1)) 4) (32 + k)).toInt8.toInt32)) := va_up_of ef_3
        refine lv_iinc (v := nI (k + 1)) (lv' := [(2, .int (nI (k + 1))), (0, .ref (ad 302)), (1, .int (nI 1))]) hx hb dX6_digest_83 hl (k := 2) rfl (by rw [show Int32.ofInt 1 = nI 1 from rfl]; exact nI_add _ _) (by decide) rfl (fun ls hl => ?_)
        refine lv_goto (tgt := 52) hx hb dX6_digest_86 (by decide) ?_
        have hw : xw D vwCl N ad B s.heap (va_up (va_up (va_up (va_up f 302 (.inr (7, mO ad 0 (n 0) (n 1) (n 2) (g 13 0) (n 3) (n 4) 4 (n 1)))) 319 (ai (ca 1) 320 (cpB (z 0) (g 0) (n 1)))) 320 (ai (ca 1) 36 (mkS (z 1) (crM (g 0) (n 1) ^^^ (-1)) 4))) 318 (ai (ca 1) 32 (cpB (g 16) (fun x => mkS (z 1) (crM (g 0) (n 1) ^^^ (-1)) 4 (32 + x)) (k + 1)))) H locs := by
          have ez : f_3 = va_up (va_up (va_up (va_up f 302 (.inr (7, mO ad 0 (n 0) (n 1) (n 2) (g 13 0) (n 3) (n 4) 4 (n 1)))) 319 (ai (ca 1) 320 (cpB (z 0) (g 0) (n 1)))) 320 (ai (ca 1) 36 (mkS (z 1) (crM (g 0) (n 1) ^^^ (-1)) 4))) 318 (ai (ca 1) 32 (cpB (g 16) (fun x => mkS (z 1) (crM (g 0) (n 1) ^^^ (-1)) 4 (32 + x)) (k + 1))) := by simp only [ef_3, ef_2, up_aa]; rw [← cpB_s]
          rw [← ez]; exact hw
        exact ih_52 (k + 1) _ _ _ (by omega) (by omega) hw (lv_sub hl [1, 2, 0] rfl)
  refine lv_aload_n hx hb dX6_digest_0 rfl (lv_at hl 0 rfl) ?_
  refine lv_iconst (v := nI 0) hx hb dX6_digest_1 (by decide) ?_
  refine x_put (ci := 7) (C := RX6) (T := TX6) (n := 32) (ref := RX6) (fs' := mO ad 0 (n 0) (n 1) (n 2) (g 13 0) (n 3) (n 4) (n 5) zn) hx hb hts hin_7 tyX6 tyX6_ok nmX6 hown hK dd hw 302 (by omega) c_302 rfl 0 (by decide) hf_160 (fun _ h => h) rfl rfl rfl (Nat.le_of_ble_eq_true rfl) rfl dX6_digest_2 (fun H locs hw => ?_)
  obtain ⟨f_4, ef_4⟩ : ∃ z, z = va_up f 302 (.inr (7, mO ad 0 (n 0) (n 1) (n 2) (g 13 0) (n 3) (n 4) (n 5) zn)) := ⟨_, rfl⟩
  have hw : xw D vwCl N ad B s.heap f_4 H locs := by rw [ef_4]; exact hw
  have c_302 : f_4 302 = .inr (7, mO ad 0 (n 0) (n 1) (n 2) (g 13 0) (n 3) (n 4) (n 5) zn) := va_up_of ef_4
  refine lv_iload_n hx hb dX6_digest_5 rfl (lv_at hl 1 rfl) ?_
  refine lv_iconst (v := nI 0) hx hb dX6_digest_6 (by decide) ?_
  refine lv_iconst (v := nI 1) hx hb dX6_digest_7 (by decide) ?_
  refine x_Si (As := [.int (nI 1), .int (nI 0), .int (nI 1)]) (rest := []) ⟨hx, hb, hml, hown, hts⟩ (k_X6_in_yes l D ca N ad B tR tK f_4 dd 1 0 1   (by omega) (by omega) (by omega)) (va_cwS 3 hts gX6_digest_X6_in rfl rfl rfl (by decide +kernel) ⟨Nat.le_of_ble_eq_true rfl, Nat.le_of_ble_eq_true rfl⟩) hK hE hB hw rfl rfl hl.1 (Nat.le_of_ble_eq_true rfl) ⟨Nat.zero_le _, Nat.zero_le _⟩ dX6_digest_8 (fun r_6 f_5 H locs hp hw => ?_)
  obtain ⟨er, eu⟩ := hp
  rw [← er]
  rw [← eu] at hw
  refine lv_if_ne (tgt := 17) hx hb dX6_digest_11 (by decide) (fun _ => ?_) (fun h => absurd h (by decide))
  refine lv_aload_n hx hb dX6_digest_17 rfl (lv_at hl 0 rfl) ?_
  have c_303 : f_4 303 = ai (ca 1) 200 (g 0) := by rw [ef_4, va_up_ne _ _ (by decide)]; exact c_303
  have c_319 : f_4 319 = ai (ca 1) 320 (z 0) := by rw [ef_4, va_up_ne _ _ (by decide)]; exact c_319
  refine x_Vv (q := 302) (As := []) (rest := []) ⟨hx, hb, hml, hown, hts⟩ (k_X6_gather l D ca N ad B tR tK f_4 dd 0 (n 0) (n 1) (n 2) (g 13 0) (n 3) (n 4) (n 5) zn (z 0) (g 0) c_302 c_303 c_319  (by omega) (by omega)) (cwV 0 hts gX6_digest_X6_gather rfl rfl rfl (by decide +kernel) ⟨Nat.le_of_ble_eq_true rfl, Nat.le_of_ble_eq_true rfl⟩) hK hE hB hw (by omega) c_302 rfl rfl rfl rfl hl.1 (Nat.le_of_ble_eq_true rfl) ⟨Nat.zero_le _, Nat.zero_le _⟩ dX6_digest_18 (fun f_7 H locs hp hw => ?_)
  have eu := hp
  have ef_7 : f_7 = va_up (va_up f_4 302 (.inr (7, mO ad 0 (n 0) (n 1) (n 2) (g 13 0) (n 3) (n 4) (n 5) (n 1)))) 319 (ai (ca 1) 320 (cpB (z 0) (g 0) (n 1))) := eu
  have c_302 : f_7 302 = .inr (7, mO ad 0 (n 0) (n 1) (n 2) (g 13 0) (n 3) (n 4) (n 5) (n 1)) := by rw [ef_7, va_up_ne _ _ (by decide), va_up_self]
  have c_319 : f_7 319 = ai (ca 1) 320 (cpB (z 0) (g 0) (n 1)) := by rw [ef_7, va_up_self]
  refine lv_iload_n hx hb dX6_digest_21 rfl (lv_at hl 1 rfl) ?_
  refine lv_if_ne (tgt := 32) hx hb dX6_digest_22 (by decide) (fun _ => ?_) (fun h => absurd h (by decide))
  refine lv_aload_n hx hb dX6_digest_32 rfl (lv_at hl 0 rfl) ?_
  have c_320 : f_7 320 = ai (ca 1) 36 (z 1) := by rw [ef_7, va_up_ne _ _ (by decide), va_up_ne _ _ (by decide), ef_4, va_up_ne _ _ (by decide)]; exact c_320
  refine x_Vv (q := 302) (As := []) (rest := []) ⟨hx, hb, hml, hown, hts⟩ (k_X6_short1 l D ca N ad B tR tK f_7 dd 0 (n 0) (n 1) (n 2) (g 13 0) (n 3) (n 4) (n 5) (n 1) (cpB (z 0) (g 0) (n 1)) (z 1) c_302 c_319 c_320  (by omega) (by omega)) (cwV 0 hts gX6_digest_X6_short1 rfl rfl rfl (by decide +kernel) ⟨Nat.le_of_ble_eq_true rfl, Nat.le_of_ble_eq_true rfl⟩) hK hE hB hw (by omega) c_302 rfl rfl rfl rfl hl.1 (Nat.le_of_ble_eq_true rfl) ⟨Nat.zero_le _, Nat.zero_le _⟩ dX6_digest_33 (fun f_9 H locs hp hw => ?_)
  have eu := hp
  have ef_9 : f_9 = va_up f_7 320 (ai (ca 1) 36 (mkS (z 1) (crM (cpB (z 0) (g 0) (n 1)) (n 1) ^^^ (-1)) 4)) := eu
  have c_320 : f_9 320 = ai (ca 1) 36 (mkS (z 1) (crM (cpB (z 0) (g 0) (n 1)) (n 1) ^^^ (-1)) 4) := by rw [ef_9, va_up_self]
  have c_320 : f_9 320 = ai (ca 1) 36 (mkS (z 1) (crM (g 0) (n 1) ^^^ (-1)) 4) := by rw [c_320]; rw [crM_ext (b := cpB (z 0) (g 0) (n 1)) (b' := g 0) (n 1) (fun q hq => cpB_at hq)]
  refine lv_aload_n hx hb dX6_digest_36 rfl (lv_at hl 0 rfl) ?_
  refine lv_iload_n hx hb dX6_digest_37 rfl (lv_at hl 1 rfl) ?_
  refine lv_if_ne (tgt := 46) hx hb dX6_digest_38 (by decide) (fun _ => ?_) (fun h => absurd h (by decide))
  refine lv_iconst (v := nI 4) hx hb dX6_digest_46 (by decide) ?_
  have c_302 : f_9 302 = .inr (7, mO ad 0 (n 0) (n 1) (n 2) (g 13 0) (n 3) (n 4) (n 5) (n 1)) := by rw [ef_9, va_up_ne _ _ (by decide)]; exact c_302
  refine x_put (ci := 7) (C := RX6) (T := TX6) (n := 32) (ref := RX6) (fs' := mO ad 0 (n 0) (n 1) (n 2) (g 13 0) (n 3) (n 4) 4 (n 1)) hx hb hts hin_7 tyX6 tyX6_ok nmX6 hown hK dd hw 302 (by omega) c_302 rfl 22 (by decide) hf_215 (fun _ h => h) rfl rfl rfl (Nat.le_of_ble_eq_true rfl) rfl dX6_digest_47 (fun H locs hw => ?_)
  obtain ⟨f_11, ef_11⟩ : ∃ z, z = va_up f_9 302 (.inr (7, mO ad 0 (n 0) (n 1) (n 2) (g 13 0) (n 3) (n 4) 4 (n 1))) := ⟨_, rfl⟩
  have hw : xw D vwCl N ad B s.heap f_11 H locs := by rw [ef_11]; exact hw
  have c_302 : f_11 302 = .inr (7, mO ad 0 (n 0) (n 1) (n 2) (g 13 0) (n 3) (n 4) 4 (n 1)) := va_up_of ef_11
  refine lv_iconst (v := nI 0) hx hb dX6_digest_50 (by decide) ?_
  refine lv_istore_n (lv' := [(2, .int (nI 0)), (0, .ref (ad 302)), (1, .int (nI 1))]) hx hb dX6_digest_51 rfl hl (by decide) rfl (fun ls hl => ?_)
  have hw : xw D vwCl N ad B s.heap (va_up (va_up (va_up (va_up f 302 (.inr (7, mO ad 0 (n 0) (n 1) (n 2) (g 13 0) (n 3) (n 4) 4 (n 1)))) 319 (ai (ca 1) 320 (cpB (z 0) (g 0) (n 1)))) 320 (ai (ca 1) 36 (mkS (z 1) (crM (g 0) (n 1) ^^^ (-1)) 4))) 318 (ai (ca 1) 32 (cpB (g 16) (fun x => mkS (z 1) (crM (g 0) (n 1) ^^^ (-1)) 4 (32 + x)) 0))) H locs := by
    have ez : f_11 = va_up (va_up (va_up (va_up f 302 (.inr (7, mO ad 0 (n 0) (n 1) (n 2) (g 13 0) (n 3) (n 4) 4 (n 1)))) 319 (ai (ca 1) 320 (cpB (z 0) (g 0) (n 1)))) 320 (ai (ca 1) 36 (mkS (z 1) (crM (g 0) (n 1) ^^^ (-1)) 4))) 318 (ai (ca 1) 32 (cpB (g 16) (fun x => mkS (z 1) (crM (g 0) (n 1) ^^^ (-1)) 4 (32 + x)) 0)) := by rw [cpB_0, ← (crM_ext (b := cpB (z 0) (g 0) (n 1)) (b' := g 0) (n 1) (fun q hq => cpB_at hq))]; simp only [ef_11, ef_9, ef_7, ef_4, up_dh]; exact (up_noop (by simp only [va_up]; exact b_318)).symm
    rw [← ez]; exact hw
  exact P_52 5 0 _ _ _ (by omega) (by omega) hw (lv_sub hl [1, 2, 0] rfl)

set_option maxHeartbeats 4000000 in
set_option maxRecDepth 100000 in
theorem k_X6_digest_no (l : Launch) (D : va_G) (ca : Nat → ClassId) (N : Nat) (ad : Nat → Nat) (B tR tK : Nat) (f : Nat → va_E) (dd : xD N ad B) (hN : 326 ≤ N) (n : Nat → Nat) (g : Nat → Nat → Int32) (z : Nat → Nat → Int32) (zn : Nat) (tb : Nat → Int32) (hR : RepM ca ad n g z zn tb f) (x : Int32) (ho : x < nI 0 ∨ nI 1 < x) : xMi l yX6_digest wsX6_digest rmX6_digest [.ref (ad 302), .int x] D ca N ad B tR tK f (fun r u => (-2) = r ∧ ∃ (z1 : Nat → Nat → Int32) (zn1 : Nat), RepM ca ad (va_up n 7 0) g z1 zn1 tb u ∧ ∀ y, (y < 302 ∨ 326 ≤ y) → u y = f y) := by
  refine x_open (cc := cX6_digest) (maxL := 3) (ret := (some .int)) (by decide) rfl (Nat.le_of_ble_eq_true rfl) ?_
  intro p e s m below meth c ls hx hb hml hown hts hr hlocks hnm hB hK hE hw hl
  have hown : s.vm.findClass RX6 = some m.cls := hown
  have hl : lv_has ls 3 [(0, .ref (ad 302)), (1, .int x)] := hl
  obtain ⟨c_302, c_303, c_304, c_305, c_306, c_307, c_308, c_309, c_310, c_311, c_312, c_313, c_314, c_315, c_316, c_317, c_318, c_319, c_320, c_321, c_322, c_323, c_324, c_325, hzn⟩ := hR
  have hin_7 : ∀ w ∈ u_ws RX6 TX6 32, w ∈ wsX6_digest := by decide +kernel
  have hf_160 := hts (.fieldLink RX6 160 "FixityRowsModel" "thrown" "I") (by decide +kernel)
  have b_302 := c_302
  have b_303 := c_303
  have b_304 := c_304
  have b_305 := c_305
  have b_306 := c_306
  have b_307 := c_307
  have b_308 := c_308
  have b_309 := c_309
  have b_310 := c_310
  have b_311 := c_311
  have b_312 := c_312
  have b_313 := c_313
  have b_314 := c_314
  have b_315 := c_315
  have b_316 := c_316
  have b_317 := c_317
  have b_318 := c_318
  have b_319 := c_319
  have b_320 := c_320
  have b_321 := c_321
  have b_322 := c_322
  have b_323 := c_323
  have b_324 := c_324
  have b_325 := c_325
  refine lv_aload_n hx hb dX6_digest_0 rfl (lv_at hl 0 rfl) ?_
  refine lv_iconst (v := nI 0) hx hb dX6_digest_1 (by decide) ?_
  refine x_put (ci := 7) (C := RX6) (T := TX6) (n := 32) (ref := RX6) (fs' := mO ad 0 (n 0) (n 1) (n 2) (g 13 0) (n 3) (n 4) (n 5) zn) hx hb hts hin_7 tyX6 tyX6_ok nmX6 hown hK dd hw 302 (by omega) c_302 rfl 0 (by decide) hf_160 (fun _ h => h) rfl rfl rfl (Nat.le_of_ble_eq_true rfl) rfl dX6_digest_2 (fun H locs hw => ?_)
  obtain ⟨f_1, ef_1⟩ : ∃ z, z = va_up f 302 (.inr (7, mO ad 0 (n 0) (n 1) (n 2) (g 13 0) (n 3) (n 4) (n 5) zn)) := ⟨_, rfl⟩
  have hw : xw D vwCl N ad B s.heap f_1 H locs := by rw [ef_1]; exact hw
  have c_302 : f_1 302 = .inr (7, mO ad 0 (n 0) (n 1) (n 2) (g 13 0) (n 3) (n 4) (n 5) zn) := va_up_of ef_1
  refine lv_iload_n hx hb dX6_digest_5 rfl (lv_at hl 1 rfl) ?_
  refine lv_iconst (v := nI 0) hx hb dX6_digest_6 (by decide) ?_
  refine lv_iconst (v := nI 1) hx hb dX6_digest_7 (by decide) ?_
  refine x_Si (As := [.int x, .int (nI 0), .int (nI 1)]) (rest := []) ⟨hx, hb, hml, hown, hts⟩ (k_X6_in_no l D ca N ad B tR tK f_1 dd x (nI 0) (nI 1)   ho) (va_cwS 3 hts gX6_digest_X6_in rfl rfl rfl (by decide +kernel) ⟨Nat.le_of_ble_eq_true rfl, Nat.le_of_ble_eq_true rfl⟩) hK hE hB hw rfl rfl hl.1 (Nat.le_of_ble_eq_true rfl) ⟨Nat.zero_le _, Nat.zero_le _⟩ dX6_digest_8 (fun r_3 f_2 H locs hp hw => ?_)
  obtain ⟨er, eu⟩ := hp
  rw [← er]
  rw [← eu] at hw
  refine lv_if_ne (tgt := 17) hx hb dX6_digest_11 (by decide) (fun h => False.elim (h (by decide))) (fun _ => ?_)
  refine lv_bipush (v := (-2)) hx hb dX6_digest_14 (by decide) ?_
  have c_303 : f_1 303 = ai (ca 1) 200 (g 0) := by rw [ef_1, va_up_ne _ _ (by decide)]; exact c_303
  have c_304 : f_1 304 = ai (ca 1) 4000 (g 1) := by rw [ef_1, va_up_ne _ _ (by decide)]; exact c_304
  have c_305 : f_1 305 = ai (ca 0) 20 (g 2) := by rw [ef_1, va_up_ne _ _ (by decide)]; exact c_305
  have c_306 : f_1 306 = ai (ca 0) 20 (g 3) := by rw [ef_1, va_up_ne _ _ (by decide)]; exact c_306
  have c_307 : f_1 307 = ai (ca 1) 720 (g 4) := by rw [ef_1, va_up_ne _ _ (by decide)]; exact c_307
  have c_308 : f_1 308 = ai (ca 0) 20 (g 5) := by rw [ef_1, va_up_ne _ _ (by decide)]; exact c_308
  have c_309 : f_1 309 = ai (ca 0) 20 (g 6) := by rw [ef_1, va_up_ne _ _ (by decide)]; exact c_309
  have c_310 : f_1 310 = ai (ca 0) 20 (g 7) := by rw [ef_1, va_up_ne _ _ (by decide)]; exact c_310
  have c_311 : f_1 311 = ai (ca 0) 20 (g 8) := by rw [ef_1, va_up_ne _ _ (by decide)]; exact c_311
  have c_312 : f_1 312 = ai (ca 0) 20 (g 9) := by rw [ef_1, va_up_ne _ _ (by decide)]; exact c_312
  have c_313 : f_1 313 = ai (ca 2) 20 (g 10) := by rw [ef_1, va_up_ne _ _ (by decide)]; exact c_313
  have c_314 : f_1 314 = ai (ca 0) 200 (g 11) := by rw [ef_1, va_up_ne _ _ (by decide)]; exact c_314
  have c_315 : f_1 315 = ai (ca 0) 200 (g 12) := by rw [ef_1, va_up_ne _ _ (by decide)]; exact c_315
  have c_316 : f_1 316 = ai (ca 0) 200 (g 14) := by rw [ef_1, va_up_ne _ _ (by decide)]; exact c_316
  have c_317 : f_1 317 = ai (ca 1) 6400 (g 15) := by rw [ef_1, va_up_ne _ _ (by decide)]; exact c_317
  have c_318 : f_1 318 = ai (ca 1) 32 (g 16) := by rw [ef_1, va_up_ne _ _ (by decide)]; exact c_318
  have c_319 : f_1 319 = ai (ca 1) 320 (z 0) := by rw [ef_1, va_up_ne _ _ (by decide)]; exact c_319
  have c_320 : f_1 320 = ai (ca 1) 36 (z 1) := by rw [ef_1, va_up_ne _ _ (by decide)]; exact c_320
  have c_321 : f_1 321 = ai (ca 0) 64 (z 2) := by rw [ef_1, va_up_ne _ _ (by decide)]; exact c_321
  have c_322 : f_1 322 = ai (ca 0) 8 (z 3) := by rw [ef_1, va_up_ne _ _ (by decide)]; exact c_322
  have c_323 : f_1 323 = ai (ca 0) 8 (z 4) := by rw [ef_1, va_up_ne _ _ (by decide)]; exact c_323
  have c_324 : f_1 324 = ai (ca 0) 8 shR := by rw [ef_1, va_up_ne _ _ (by decide)]; exact c_324
  have c_325 : f_1 325 = ai (ca 0) 64 shK := by rw [ef_1, va_up_ne _ _ (by decide)]; exact c_325
  have qn_0 : (va_up n 7 0) 0 = n 0 := by rw [va_up_ne _ _ (by decide)]
  have qn_1 : (va_up n 7 0) 1 = n 1 := by rw [va_up_ne _ _ (by decide)]
  have qn_2 : (va_up n 7 0) 2 = n 2 := by rw [va_up_ne _ _ (by decide)]
  have qn_3 : (va_up n 7 0) 3 = n 3 := by rw [va_up_ne _ _ (by decide)]
  have qn_4 : (va_up n 7 0) 4 = n 4 := by rw [va_up_ne _ _ (by decide)]
  have qn_5 : (va_up n 7 0) 5 = n 5 := by rw [va_up_ne _ _ (by decide)]
  have qn_6 : (va_up n 7 0) 6 = n 6 := by rw [va_up_ne _ _ (by decide)]
  have qn_7 : (va_up n 7 0) 7 = 0 := by rw [va_up_self]
  have hRz : RepM ca ad (va_up n 7 0) g z zn tb f_1 := ⟨(by rw [qn_7, qn_0, qn_1, qn_2, qn_3, qn_4, qn_5]; exact c_302),
        c_303,
        c_304,
        c_305,
        c_306,
        c_307,
        c_308,
        c_309,
        c_310,
        c_311,
        c_312,
        c_313,
        c_314,
        c_315,
        c_316,
        c_317,
        c_318,
        c_319,
        c_320,
        c_321,
        c_322,
        c_323,
        c_324,
        c_325, hzn⟩
  exact x_iret hx hb hr hlocks hw ⟨rfl, z, zn, hRz, (fun y hy => by rw [ef_1, va_up_ne _ _ (by omega)])⟩ dX6_digest_16
