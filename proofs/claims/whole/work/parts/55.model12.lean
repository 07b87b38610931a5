/-! ===== the reference: a day is worked ===== -/
def zN (g : Nat → Nat → Int32) (i : Nat) : Nat := (g 2 i).toInt.toNat
def mchkN (n : Nat → Nat) : Nat → Nat := if n 4 < 200 then va_up n 4 ((n 4) + 1) else n
def mrowG (n : Nat → Nat) (g : Nat → Nat → Int32) (kd fl y : Int32) : Nat → Nat → Int32 := va_up (va_up (va_up (va_up g 11 (upd (g 11) (n 4) kd)) 12 (upd (g 12) (n 4) fl)) 14 (upd (g 14) (n 4) y)) 15 (rowB (g 15) (rowS (g 15) (n 4) kd fl y) (n 4))
def mfitG (n : Nat → Nat) (g : Nat → Nat → Int32) (i : Nat) (y : Int32) : Nat → Nat → Int32 := va_up (va_up (va_up (va_up (va_up g 5 (upd (g 5) i y)) 11 (upd (g 11) (n 4) (nI 1))) 12 (upd (g 12) (n 4) (nI i))) 14 (upd (g 14) (n 4) y)) 15 (rowB (g 15) (rowS (g 15) (n 4) (nI 1) (nI i) y) (n 4))
noncomputable def mfitI (g : Nat → Nat → Int32) (i : Nat) : Int32 := @ite _ (mFit g i i (zN g i)) (Classical.propDecidable _) (nI 1) (nI 0)
noncomputable def mchkG (n : Nat → Nat) (g : Nat → Nat → Int32) (i : Nat) (y : Int32) : Nat → Nat → Int32 := @ite _ (mFit g i i (zN g i)) (Classical.propDecidable _) (if n 4 < 200 then mfitG n g i y else va_up g 5 (upd (g 5) i y)) (if n 4 < 200 then mrowG n g (nI 2) (nI i) y else g)
theorem mchkG_fit {n : Nat → Nat} {g : Nat → Nat → Int32} {i : Nat} {y : Int32} (h : mFit g i i (zN g i)) (h5 : n 4 < 200) : mchkG n g i y = mfitG n g i y ∧ mchkN n = va_up n 4 ((n 4) + 1) ∧ mfitI g i = nI 1 := ⟨(if_pos h).trans (if_pos h5), if_pos h5, if_pos h⟩
theorem mchkG_fitF {n : Nat → Nat} {g : Nat → Nat → Int32} {i : Nat} {y : Int32} (h : mFit g i i (zN g i)) (h5 : n 4 = 200) : mchkG n g i y = va_up g 5 (upd (g 5) i y) ∧ mchkN n = n ∧ mfitI g i = nI 1 := ⟨(if_pos h).trans (if_neg (by omega)), if_neg (by omega), if_pos h⟩
theorem mchkG_no {n : Nat → Nat} {g : Nat → Nat → Int32} {i : Nat} {y : Int32} (h : ¬ mFit g i i (zN g i)) (h5 : n 4 < 200) : mchkG n g i y = mrowG n g (nI 2) (nI i) y ∧ mchkN n = va_up n 4 ((n 4) + 1) ∧ mfitI g i = nI 0 := ⟨(if_neg h).trans (if_pos h5), if_pos h5, if_neg h⟩
theorem mchkG_noF {n : Nat → Nat} {g : Nat → Nat → Int32} {i : Nat} {y : Int32} (h : ¬ mFit g i i (zN g i)) (h5 : n 4 = 200) : mchkG n g i y = g ∧ mchkN n = n ∧ mfitI g i = nI 0 := ⟨(if_neg h).trans (if_neg (by omega)), if_neg (by omega), if_neg h⟩
theorem mchkG_at {n : Nat → Nat} {g : Nat → Nat → Int32} {i a : Nat} {y : Int32} (h5 : a ≠ 5) (h1 : a < 11 ∨ 15 < a) : mchkG n g i y a = g a := by
  unfold mchkG
  by_cases h : mFit g i i (zN g i)
  · rw [if_pos h]
    by_cases h2 : n 4 < 200
    · rw [if_pos h2]; unfold mfitG
      rw [va_up_ne _ _ (by omega), va_up_ne _ _ (by omega), va_up_ne _ _ (by omega), va_up_ne _ _ (by omega), va_up_ne _ _ h5]
    · rw [if_neg h2, va_up_ne _ _ h5]
  · rw [if_neg h]
    by_cases h2 : n 4 < 200
    · rw [if_pos h2]; unfold mrowG
      rw [va_up_ne _ _ (by omega), va_up_ne _ _ (by omega), va_up_ne _ _ (by omega), va_up_ne _ _ (by omega)]
    · rw [if_neg h2]
theorem mchkN_at {n : Nat → Nat} {a : Nat} (h : a ≠ 4) : mchkN n a = n a := by
  unfold mchkN
  by_cases h1 : n 4 < 200
  · rw [if_pos h1, va_up_ne _ _ h]
  · rw [if_neg h1]
theorem mchkN_4 {n : Nat → Nat} (h : n 4 ≤ 200) : mchkN n 4 ≤ 200 := by
  unfold mchkN
  by_cases h1 : n 4 < 200
  · rw [if_pos h1, va_up_self]; omega
  · rw [if_neg h1]; exact h
def mdG1 (n : Nat → Nat) (g : Nat → Nat → Int32) (j : Nat) : Nat → Nat → Int32 := va_up g 9 (upd (g 9) (n 3) (nI j))
noncomputable def mdStep (n : Nat → Nat) (g : Nat → Nat → Int32) (y : Int32) (j : Nat) : (Nat → Nat) × (Nat → Nat → Int32) :=
  (va_up (mchkN n) 3 (mchkN n 3 + 1), va_up (va_up (mchkG n (mdG1 n g j) j y) 7 (upd (mchkG n (mdG1 n g j) j y 7) j (mchkG n (mdG1 n g j) j y 7 j + mchkG n (mdG1 n g j) j y 8 j * ((y - mchkG n (mdG1 n g j) j y 7 j) / mchkG n (mdG1 n g j) j y 8 j + nI 1)))) 10 (upd (mchkG n (mdG1 n g j) j y 10) (n 3) (mfitI (mdG1 n g j) j)))
theorem mdStep_n {n : Nat → Nat} {g : Nat → Nat → Int32} {y : Int32} {j a : Nat} (h : a ≠ 3) : (mdStep n g y j).1 a = mchkN n a := va_up_ne _ _ h
theorem mdStep_3 {n : Nat → Nat} {g : Nat → Nat → Int32} {y : Int32} {j : Nat} : (mdStep n g y j).1 3 = n 3 + 1 := by
  unfold mdStep
  dsimp only
  rw [va_up_self, mchkN_at (by decide)]
theorem mdStep_g {n : Nat → Nat} {g : Nat → Nat → Int32} {y : Int32} {j a : Nat} (h : a ≠ 7) (h1 : a ≠ 10) : (mdStep n g y j).2 a = mchkG n (mdG1 n g j) j y a := (va_up_ne _ _ h1).trans (va_up_ne _ _ h)
theorem mdStep_7 {n : Nat → Nat} {g : Nat → Nat → Int32} {y : Int32} {j : Nat} : (mdStep n g y j).2 7 = upd (g 7) j (g 7 j + g 8 j * ((y - g 7 j) / g 8 j + nI 1)) := by
  unfold mdStep
  dsimp only
  rw [va_up_ne _ _ (by decide), va_up_self, mchkG_at (by decide) (by decide), mchkG_at (by decide) (by decide)]
  unfold mdG1
  rw [va_up_ne _ _ (by decide), va_up_ne _ _ (by decide)]
theorem mdG1_at {n : Nat → Nat} {g : Nat → Nat → Int32} {j a : Nat} (h : a ≠ 9) : mdG1 n g j a = g a := va_up_ne _ _ h
noncomputable def mdS (n : Nat → Nat) (g : Nat → Nat → Int32) (y : Int32) : Nat → (Nat → Nat) × (Nat → Nat → Int32)
  | 0 => (va_up (va_up n 7 0) 3 0, va_up g 13 (upd (g 13) 0 y))
  | k + 1 => match lwM ((mdS n g y k).2 7) y (n 2) with
    | none => mdS n g y k
    | some j => mdStep (mdS n g y k).1 (mdS n g y k).2 y j
theorem mdS_none {n : Nat → Nat} {g : Nat → Nat → Int32} {y : Int32} {k : Nat} (h : lwM ((mdS n g y k).2 7) y (n 2) = none) : mdS n g y (k + 1) = mdS n g y k := by
  show (match lwM ((mdS n g y k).2 7) y (n 2) with | none => _ | some j => _) = _
  rw [h]
theorem mdS_some {n : Nat → Nat} {g : Nat → Nat → Int32} {y : Int32} {k j : Nat} (h : lwM ((mdS n g y k).2 7) y (n 2) = some j) : mdS n g y (k + 1) = mdStep (mdS n g y k).1 (mdS n g y k).2 y j := by
  show (match lwM ((mdS n g y k).2 7) y (n 2) with | none => _ | some j => _) = _
  rw [h]
theorem mdS_stop {n : Nat → Nat} {g : Nat → Nat → Int32} {y : Int32} {k : Nat} (h : lwM ((mdS n g y k).2 7) y (n 2) = none) : ∀ d, mdS n g y (k + d) = mdS n g y k := by
  intro d
  induction d with
  | zero => rfl
  | succ d ih =>
    rw [← Nat.add_assoc, mdS_none (by rw [ih]; exact h), ih]
theorem lwM_due (du : Nat → Int32) (y : Int32) : ∀ i j, lwM du y i = some j → ¬ du j < 0 ∧ ¬ y < du j := by
  intro i
  induction i with
  | zero => intro j h; cases h
  | succ i ih =>
    intro j h
    unfold lwM at h
    cases e : lwM du y i with
    | none =>
      rw [e] at h
      by_cases h1 : du i < 0 ∨ y < du i
      · simp only [if_pos h1] at h; cases h
      · simp only [if_neg h1] at h; cases h; exact ⟨fun q => h1 (Or.inl q), fun q => h1 (Or.inr q)⟩
    | some k =>
      rw [e] at h
      have hk := ih k e
      by_cases h1 : du i < 0 ∨ y < du i ∨ du k ≤ du i
      · simp only [if_pos h1] at h; cases h; exact hk
      · simp only [if_neg h1] at h; cases h; exact ⟨fun q => h1 (Or.inl q), fun q => h1 (Or.inr (Or.inl q))⟩
theorem mdS_facts {n : Nat → Nat} {g : Nat → Nat → Int32} {y : Int32} (h4 : n 4 ≤ 200) : ∀ k, (mdS n g y k).1 0 = n 0 ∧ (mdS n g y k).1 2 = n 2 ∧ (mdS n g y k).2 2 = g 2 ∧ (mdS n g y k).1 4 ≤ 200 ∧ (mdS n g y k).2 8 = g 8 ∧ ∀ i, ¬ (mdS n g y k).2 7 i < 0 → ¬ g 7 i < 0 := by
  intro k
  induction k with
  | zero => exact ⟨rfl, rfl, rfl, h4, rfl, fun i q => q⟩
  | succ k ih =>
    cases e : lwM ((mdS n g y k).2 7) y (n 2) with
    | none => rw [mdS_none e]; exact ih
    | some j =>
      rw [mdS_some e]
      obtain ⟨a, b, c, d, e8, e7⟩ := ih
      refine ⟨?_, ?_, ?_, ?_, ?_, fun i => ?_⟩
      · rw [mdStep_n (by decide), mchkN_at (by decide), a]
      · rw [mdStep_n (by decide), mchkN_at (by decide), b]
      · rw [mdStep_g (by decide) (by decide), mchkG_at (by decide) (by decide), mdG1_at (by decide), c]
      · rw [mdStep_n (by decide)]
        exact mchkN_4 d
      · rw [mdStep_g (by decide) (by decide), mchkG_at (by decide) (by decide), mdG1_at (by decide), e8]
      · rw [mdStep_7]
        by_cases hi : i = j
        · intro _
          rw [hi]
          exact e7 j (lwM_due _ _ _ _ e).1
        · rw [pk_un hi]
          exact e7 i
noncomputable def cwM (du : Nat → Int32) (y : Int32) : Nat → Nat
  | 0 => 0
  | i + 1 => (if du i < 0 ∨ y < du i then cwM du y i else cwM du y i + 1)
theorem cwM_le (du : Nat → Int32) (y : Int32) : ∀ i, cwM du y i ≤ i := by
  intro i
  induction i with
  | zero => exact Nat.le_refl 0
  | succ i ih =>
    unfold cwM
    by_cases h : du i < 0 ∨ y < du i
    · rw [if_pos h]; omega
    · rw [if_neg h]; omega
theorem cwM_no {du : Nat → Int32} {y : Int32} {i : Nat} (h : ¬ (¬ du i < 0 ∧ ¬ y < du i)) : cwM du y (i + 1) = cwM du y i :=
  if_pos (Classical.byContradiction fun q => h ⟨fun z => q (Or.inl z), fun z => q (Or.inr z)⟩)
theorem cwM_yes {du : Nat → Int32} {y : Int32} {i : Nat} (h : ¬ du i < 0 ∧ ¬ y < du i) : cwM du y (i + 1) = cwM du y i + 1 :=
  if_neg (fun q => q.elim h.1 h.2)
noncomputable def mdR (n : Nat → Nat) (g : Nat → Nat → Int32) (y : Int32) : Int32 := if cwM ((mdS n g y (n 0)).2 7) y (n 2) = 0 then nI ((mdS n g y (n 0)).1 3) else (-10) - nI (cwM ((mdS n g y (n 0)).2 7) y (n 2))

abbrev rmX6_due : Room := { frames := 7, cells := 0, slots := 0, locals := 161 }

set_option maxHeartbeats 4000000 in
set_option maxRecDepth 100000 in
theorem k_X6_due_day (l : Launch) (D : va_G) (ca : Nat → ClassId) (N : Nat) (ad : Nat → Nat) (B tR tK : Nat) (f : Nat → va_E) (dd : xD N ad B) (hN : 326 ≤ N) (n : Nat → Nat) (g : Nat → Nat → Int32) (z : Nat → Nat → Int32) (zn : Nat) (tb : Nat → Int32) (hR : RepM ca ad n g z zn tb f) (y : Int32) (ho : y < 0 ∨ nI 1000000 < y) : xMi l yX6_due wsX6_due rmX6_due [.ref (ad 302), .int y] D ca N ad B tR tK f (fun r u => (-2) = r ∧ ∃ (z1 : Nat → Nat → Int32) (zn1 : Nat), RepM ca ad (va_up n 7 0) g z1 zn1 tb u ∧ ∀ y, (y < 302 ∨ 326 ≤ y) → u y = f y) := by
  refine x_open (cc := cX6_due) (maxL := 4) (ret := (some .int)) (by decide) rfl (Nat.le_of_ble_eq_true rfl) ?_
  intro p e s m below meth c ls hx hb hml hown hts hr hlocks hnm hB hK hE hw hl
  have hown : s.vm.findClass RX6 = some m.cls := hown
  have hl : lv_has ls 4 [(0, .ref (ad 302)), (1, .int y)] := hl
  obtain ⟨c_302, c_303, c_304, c_305, c_306, c_307, c_308, c_309, c_310, c_311, c_312, c_313, c_314, c_315, c_316, c_317, c_318, c_319, c_320, c_321, c_322, c_323, c_324, c_325, hzn⟩ := hR
  have hin_7 : ∀ w ∈ u_ws RX6 TX6 32, w ∈ wsX6_due := by decide +kernel
  have hf_160 := hts (.fieldLink RX6 160 "FixityRowsModel" "thrown" "I") (by decide +kernel)
  have b_302 := c_302
  have b_303 := c_303
  have b_304 := c_304
  have b_305 := c_305
  have b_306 := c_306
  have b_307 := c_307
  have b_308 := c_308
  have b_309 := c_309
  have b_310 := c_310
  have b_311 := c_311
  have b_312 := c_312
  have b_313 := c_313
  have b_314 := c_314
  have b_315 := c_315
  have b_316 := c_316
  have b_317 := c_317
  have b_318 := c_318
  have b_319 := c_319
  have b_320 := c_320
  have b_321 := c_321
  have b_322 := c_322
  have b_323 := c_323
  have b_324 := c_324
  have b_325 := c_325
  refine lv_aload_n hx hb dX6_due_0 rfl (lv_at hl 0 rfl) ?_
  refine lv_iconst (v := nI 0) hx hb dX6_due_1 (by decide) ?_
  refine x_put (ci := 7) (C := RX6) (T := TX6) (n := 32) (ref := RX6) (fs' := mO ad 0 (n 0) (n 1) (n 2) (g 13 0) (n 3) (n 4) (n 5) zn) hx hb hts hin_7 tyX6 tyX6_ok nmX6 hown hK dd hw 302 (by omega) c_302 rfl 0 (by decide) hf_160 (fun _ h => h) rfl rfl rfl (Nat.le_of_ble_eq_true rfl) rfl dX6_due_2 (fun H locs hw => ?_)
  obtain ⟨f_1, ef_1⟩ : ∃ z, z = va_up f 302 (.inr (7, mO ad 0 (n 0) (n 1) (n 2) (g 13 0) (n 3) (n 4) (n 5) zn)) := ⟨_, rfl⟩
  have hw : xw D vwCl N ad B s.heap f_1 H locs := by rw [ef_1]; exact hw
  have c_302 : f_1 302 = .inr (7, mO ad 0 (n 0) (n 1) (n 2) (g 13 0) (n 3) (n 4) (n 5) zn) := va_up_of ef_1
  refine lv_iload_n hx hb dX6_due_5 rfl (lv_at hl 1 rfl) ?_
  refine x_Si (As := [.int y]) (rest := []) ⟨hx, hb, hml, hown, hts⟩ (k_X6_isDay_no l D ca N ad B tR tK f_1 dd y   ho) (va_cwS 1 hts gX6_due_X6_isDay rfl rfl rfl (by decide +kernel) ⟨Nat.le_of_ble_eq_true rfl, Nat.le_of_ble_eq_true rfl⟩) hK hE hB hw rfl rfl hl.1 (Nat.le_of_ble_eq_true rfl) ⟨Nat.zero_le _, Nat.zero_le _⟩ dX6_due_6 (fun r_3 f_2 H locs hp hw => ?_)
  obtain ⟨er, eu⟩ := hp
  rw [← er]
  rw [← eu] at hw
  refine lv_if_ne (tgt := 15) hx hb dX6_due_9 (by decide) (fun h => False.elim (h (by decide))) (fun _ => ?_)
  refine lv_bipush (v := (-2)) hx hb dX6_due_12 (by decide) ?_
  have c_303 : f_1 303 = ai (ca 1) 200 (g 0) := by rw [ef_1, va_up_ne _ _ (by decide)]; exact c_303
  have c_304 : f_1 304 = ai (ca 1) 4000 (g 1) := by rw [ef_1, va_up_ne _ _ (by decide)]; exact c_304
  have c_305 : f_1 305 = ai (ca 0) 20 (g 2) := by rw [ef_1, va_up_ne _ _ (by decide)]; exact c_305
  have c_306 : f_1 306 = ai (ca 0) 20 (g 3) := by rw [ef_1, va_up_ne _ _ (by decide)]; exact c_306
  have c_307 : f_1 307 = ai (ca 1) 720 (g 4) := by rw [ef_1, va_up_ne _ _ (by decide)]; exact c_307
  have c_308 : f_1 308 = ai (ca 0) 20 (g 5) := by rw [ef_1, va_up_ne _ _ (by decide)]; exact c_308
  have c_309 : f_1 309 = ai (ca 0) 20 (g 6) := by rw [ef_1, va_up_ne _ _ (by decide)]; exact c_309
  have c_310 : f_1 310 = ai (ca 0) 20 (g 7) := by rw [ef_1, va_up_ne _ _ (by decide)]; exact c_310
  have c_311 : f_1 311 = ai (ca 0) 20 (g 8) := by rw [ef_1, va_up_ne _ _ (by decide)]; exact c_311
  have c_312 : f_1 312 = ai (ca 0) 20 (g 9) := by rw [ef_1, va_up_ne _ _ (by decide)]; exact c_312
  have c_313 : f_1 313 = ai (ca 2) 20 (g 10) := by rw [ef_1, va_up_ne _ _ (by decide)]; exact c_313
  have c_314 : f_1 314 = ai (ca 0) 200 (g 11) := by rw [ef_1, va_up_ne _ _ (by decide)]; exact c_314
  have c_315 : f_1 315 = ai (ca 0) 200 (g 12) := by rw [ef_1, va_up_ne _ _ (by decide)]; exact c_315
  have c_316 : f_1 316 = ai (ca 0) 200 (g 14) := by rw [ef_1, va_up_ne _ _ (by decide)]; exact c_316
  have c_317 : f_1 317 = ai (ca 1) 6400 (g 15) := by rw [ef_1, va_up_ne _ _ (by decide)]; exact c_317
  have c_318 : f_1 318 = ai (ca 1) 32 (g 16) := by rw [ef_1, va_up_ne _ _ (by decide)]; exact c_318
  have c_319 : f_1 319 = ai (ca 1) 320 (z 0) := by rw [ef_1, va_up_ne _ _ (by decide)]; exact c_319
  have c_320 : f_1 320 = ai (ca 1) 36 (z 1) := by rw [ef_1, va_up_ne _ _ (by decide)]; exact c_320
  have c_321 : f_1 321 = ai (ca 0) 64 (z 2) := by rw [ef_1, va_up_ne _ _ (by decide)]; exact c_321
  have c_322 : f_1 322 = ai (ca 0) 8 (z 3) := by rw [ef_1, va_up_ne _ _ (by decide)]; exact c_322
  have c_323 : f_1 323 = ai (ca 0) 8 (z 4) := by rw [ef_1, va_up_ne _ _ (by decide)]; exact c_323
  have c_324 : f_1 324 = ai (ca 0) 8 shR := by rw [ef_1, va_up_ne _ _ (by decide)]; exact c_324
  have c_325 : f_1 325 = ai (ca 0) 64 shK := by rw [ef_1, va_up_ne _ _ (by decide)]; exact c_325
  have qn_0 : (va_up n 7 0) 0 = n 0 := by rw [va_up_ne _ _ (by decide)]
  have qn_1 : (va_up n 7 0) 1 = n 1 := by rw [va_up_ne _ _ (by decide)]
  have qn_2 : (va_up n 7 0) 2 = n 2 := by rw [va_up_ne _ _ (by decide)]
  have qn_3 : (va_up n 7 0) 3 = n 3 := by rw [va_up_ne _ _ (by decide)]
  have qn_4 : (va_up n 7 0) 4 = n 4 := by rw [va_up_ne _ _ (by decide)]
  have qn_5 : (va_up n 7 0) 5 = n 5 := by rw [va_up_ne _ _ (by decide)]
  have qn_6 : (va_up n 7 0) 6 = n 6 := by rw [va_up_ne _ _ (by decide)]
  have qn_7 : (va_up n 7 0) 7 = 0 := by rw [va_up_self]
  have hRz : RepM ca ad (va_up n 7 0) g z zn tb f_1 := ⟨(by rw [qn_7, qn_0, qn_1, qn_2, qn_3, qn_4, qn_5]; exact c_302),
        c_303,
        c_304,
        c_305,
        c_306,
        c_307,
        c_308,
        c_309,
        c_310,
        c_311,
        c_312,
        c_313,
        c_314,
        c_315,
        c_316,
        c_317,
        c_318,
        c_319,
        c_320,
        c_321,
        c_322,
        c_323,
        c_324,
        c_325, hzn⟩
  exact x_iret hx hb hr hlocks hw ⟨rfl, z, zn, hRz, (fun y hy => by rw [ef_1, va_up_ne _ _ (by omega)])⟩ dX6_due_14

set_option maxHeartbeats 4000000 in
set_option maxRecDepth 100000 in
theorem k_X6_due_state (l : Launch) (D : va_G) (ca : Nat → ClassId) (N : Nat) (ad : Nat → Nat) (B tR tK : Nat) (f : Nat → va_E) (dd : xD N ad B) (hN : 326 ≤ N) (n : Nat → Nat) (g : Nat → Nat → Int32) (z : Nat → Nat → Int32) (zn : Nat) (tb : Nat → Int32) (hR : RepM ca ad n g z zn tb f) (j : Nat) (hj : j ≤ 1000000) (ho : nI j < g 13 0) : xMi l yX6_due wsX6_due rmX6_due [.ref (ad 302), .int (nI j)] D ca N ad B tR tK f (fun r u => (-3) = r ∧ ∃ (z1 : Nat → Nat → Int32) (zn1 : Nat), RepM ca ad (va_up n 7 0) g z1 zn1 tb u ∧ ∀ y, (y < 302 ∨ 326 ≤ y) → u y = f y) := by
  refine x_open (cc := cX6_due) (maxL := 4) (ret := (some .int)) (by decide) rfl (Nat.le_of_ble_eq_true rfl) ?_
  intro p e s m below meth c ls hx hb hml hown hts hr hlocks hnm hB hK hE hw hl
  have hown : s.vm.findClass RX6 = some m.cls := hown
  have hl : lv_has ls 4 [(0, .ref (ad 302)), (1, .int (nI j))] := hl
  obtain ⟨c_302, c_303, c_304, c_305, c_306, c_307, c_308, c_309, c_310, c_311, c_312, c_313, c_314, c_315, c_316, c_317, c_318, c_319, c_320, c_321, c_322, c_323, c_324, c_325, hzn⟩ := hR
  have hin_7 : ∀ w ∈ u_ws RX6 TX6 32, w ∈ wsX6_due := by decide +kernel
  have hf_160 := hts (.fieldLink RX6 160 "FixityRowsModel" "thrown" "I") (by decide +kernel)
  have hf_38 := hts (.fieldLink RX6 38 "FixityRowsModel" "worked" "I") (by decide +kernel)
  have b_302 := c_302
  have b_303 := c_303
  have b_304 := c_304
  have b_305 := c_305
  have b_306 := c_306
  have b_307 := c_307
  have b_308 := c_308
  have b_309 := c_309
  have b_310 := c_310
  have b_311 := c_311
  have b_312 := c_312
  have b_313 := c_313
  have b_314 := c_314
  have b_315 := c_315
  have b_316 := c_316
  have b_317 := c_317
  have b_318 := c_318
  have b_319 := c_319
  have b_320 := c_320
  have b_321 := c_321
  have b_322 := c_322
  have b_323 := c_323
  have b_324 := c_324
  have b_325 := c_325
  refine lv_aload_n hx hb dX6_due_0 rfl (lv_at hl 0 rfl) ?_
  refine lv_iconst (v := nI 0) hx hb dX6_due_1 (by decide) ?_
  refine x_put (ci := 7) (C := RX6) (T := TX6) (n := 32) (ref := RX6) (fs' := mO ad 0 (n 0) (n 1) (n 2) (g 13 0) (n 3) (n 4) (n 5) zn) hx hb hts hin_7 tyX6 tyX6_ok nmX6 hown hK dd hw 302 (by omega) c_302 rfl 0 (by decide) hf_160 (fun _ h => h) rfl rfl rfl (Nat.le_of_ble_eq_true rfl) rfl dX6_due_2 (fun H locs hw => ?_)
  obtain ⟨f_1, ef_1⟩ : ∃ z, z = va_up f 302 (.inr (7, mO ad 0 (n 0) (n 1) (n 2) (g 13 0) (n 3) (n 4) (n 5) zn)) := ⟨_, rfl⟩
  have hw : xw D vwCl N ad B s.heap f_1 H locs := by rw [ef_1]; exact hw
  have c_302 : f_1 302 = .inr (7, mO ad 0 (n 0) (n 1) (n 2) (g 13 0) (n 3) (n 4) (n 5) zn) := va_up_of ef_1
  refine lv_iload_n hx hb dX6_due_5 rfl (lv_at hl 1 rfl) ?_
  refine x_Si (As := [.int (nI j)]) (rest := []) ⟨hx, hb, hml, hown, hts⟩ (k_X6_isDay_yes l D ca N ad B tR tK f_1 dd j   (by omega)) (va_cwS 1 hts gX6_due_X6_isDay rfl rfl rfl (by decide +kernel) ⟨Nat.le_of_ble_eq_true rfl, Nat.le_of_ble_eq_true rfl⟩) hK hE hB hw rfl rfl hl.1 (Nat.le_of_ble_eq_true rfl) ⟨Nat.zero_le _, Nat.zero_le _⟩ dX6_due_6 (fun r_3 f_2 H locs hp hw => ?_)
  obtain ⟨er, eu⟩ := hp
  rw [← er]
  rw [← eu] at hw
  refine lv_if_ne (tgt := 15) hx hb dX6_due_9 (by decide) (fun _ => ?_) (fun h => absurd h (by decide))
  refine lv_iload_n hx hb dX6_due_15 rfl (lv_at hl 1 rfl) ?_
  refine lv_aload_n hx hb dX6_due_16 rfl (lv_at hl 0 rfl) ?_
  refine x_get (ci := 7) (C := RX6) (T := TX6) (n := 32) (ref := RX6) hx hb hts hin_7 hown hK hw 302 (by omega) c_302 rfl 13 (by decide) hf_38 (fun _ h => h) rfl dX6_due_17 ?_
  refine lv_icmp_ge (tgt := 26) hx hb dX6_due_20 (by decide) (fun hc_20 => ?_) (fun hc_20 => ?_)
  · exact absurd ho (Int32.not_lt.mpr hc_20)
  · refine lv_bipush (v := (-3)) hx hb dX6_due_23 (by decide) ?_
    have c_303 : f_1 303 = ai (ca 1) 200 (g 0) := by rw [ef_1, va_up_ne _ _ (by decide)]; exact c_303
    have c_304 : f_1 304 = ai (ca 1) 4000 (g 1) := by rw [ef_1, va_up_ne _ _ (by decide)]; exact c_304
    have c_305 : f_1 305 = ai (ca 0) 20 (g 2) := by rw [ef_1, va_up_ne _ _ (by decide)]; exact c_305
    have c_306 : f_1 306 = ai (ca 0) 20 (g 3) := by rw [ef_1, va_up_ne _ _ (by decide)]; exact c_306
    have c_307 : f_1 307 = ai (ca 1) 720 (g 4) := by rw [ef_1, va_up_ne _ _ (by decide)]; exact c_307
    have c_308 : f_1 308 = ai (ca 0) 20 (g 5) := by rw [ef_1, va_up_ne _ _ (by decide)]; exact c_308
    have c_309 : f_1 309 = ai (ca 0) 20 (g 6) := by rw [ef_1, va_up_ne _ _ (by decide)]; exact c_309
    have c_310 : f_1 310 = ai (ca 0) 20 (g 7) := by rw [ef_1, va_up_ne _ _ (by decide)]; exact c_310
    have c_311 : f_1 311 = ai (ca 0) 20 (g 8) := by rw [ef_1, va_up_ne _ _ (by decide)]; exact c_311
    have c_312 : f_1 312 = ai (ca 0) 20 (g 9) := by rw [ef_1, va_up_ne _ _ (by decide)]; exact c_312
    have c_313 : f_1 313 = ai (ca 2) 20 (g 10) := by rw [ef_1, va_up_ne _ _ (by decide)]; exact c_313
    have c_314 : f_1 314 = ai (ca 0) 200 (g 11) := by rw [ef_1, va_up_ne _ _ (by decide)]; exact c_314
    have c_315 : f_1 315 = ai (ca 0) 200 (g 12) := by rw [ef_1, va_up_ne _ _ (by decide)]; exact c_315
    have c_316 : f_1 316 = ai (ca 0) 200 (g 14) := by rw [ef_1, va_up_ne _ _ (by decide)]; exact c_316
    have c_317 : f_1 317 = ai (ca 1) 6400 (g 15) := by rw [ef_1, va_up_ne _ _ (by decide)]; exact c_317
    have c_318 : f_1 318 = ai (ca 1) 32 (g 16) := by rw [ef_1, va_up_ne _ _ (by decide)]; exact c_318
    have c_319 : f_1 319 = ai (ca 1) 320 (z 0) := by rw [ef_1, va_up_ne _ _ (by decide)]; exact c_319
    have c_320 : f_1 320 = ai (ca 1) 36 (z 1) := by rw [ef_1, va_up_ne _ _ (by decide)]; exact c_320
    have c_321 : f_1 321 = ai (ca 0) 64 (z 2) := by rw [ef_1, va_up_ne _ _ (by decide)]; exact c_321
    have c_322 : f_1 322 = ai (ca 0) 8 (z 3) := by rw [ef_1, va_up_ne _ _ (by decide)]; exact c_322
    have c_323 : f_1 323 = ai (ca 0) 8 (z 4) := by rw [ef_1, va_up_ne _ _ (by decide)]; exact c_323
    have c_324 : f_1 324 = ai (ca 0) 8 shR := by rw [ef_1, va_up_ne _ _ (by decide)]; exact c_324
    have c_325 : f_1 325 = ai (ca 0) 64 shK := by rw [ef_1, va_up_ne _ _ (by decide)]; exact c_325
    have qn_0 : (va_up n 7 0) 0 = n 0 := by rw [va_up_ne _ _ (by decide)]
    have qn_1 : (va_up n 7 0) 1 = n 1 := by rw [va_up_ne _ _ (by decide)]
    have qn_2 : (va_up n 7 0) 2 = n 2 := by rw [va_up_ne _ _ (by decide)]
    have qn_3 : (va_up n 7 0) 3 = n 3 := by rw [va_up_ne _ _ (by decide)]
    have qn_4 : (va_up n 7 0) 4 = n 4 := by rw [va_up_ne _ _ (by decide)]
    have qn_5 : (va_up n 7 0) 5 = n 5 := by rw [va_up_ne _ _ (by decide)]
    have qn_6 : (va_up n 7 0) 6 = n 6 := by rw [va_up_ne _ _ (by decide)]
    have qn_7 : (va_up n 7 0) 7 = 0 := by rw [va_up_self]
    have hRz : RepM ca ad (va_up n 7 0) g z zn tb f_1 := ⟨(by rw [qn_7, qn_0, qn_1, qn_2, qn_3, qn_4, qn_5]; exact c_302),
          c_303,
          c_304,
          c_305,
          c_306,
          c_307,
          c_308,
          c_309,
          c_310,
          c_311,
          c_312,
          c_313,
          c_314,
          c_315,
          c_316,
          c_317,
          c_318,
          c_319,
          c_320,
          c_321,
          c_322,
          c_323,
          c_324,
          c_325, hzn⟩
    exact x_iret hx hb hr hlocks hw ⟨rfl, z, zn, hRz, (fun y hy => by rw [ef_1, va_up_ne _ _ (by omega)])⟩ dX6_due_25

set_option maxHeartbeats 4000000 in
set_option maxRecDepth 100000 in
theorem k_X6_due_in (l : Launch) (D : va_G) (ca : Nat → ClassId) (N : Nat) (ad : Nat → Nat) (B tR tK : Nat) (f : Nat → va_E) (dd : xD N ad B) (hN : 326 ≤ N) (n : Nat → Nat) (g : Nat → Nat → Int32) (z : Nat → Nat → Int32) (zn : Nat) (tb : Nat → Int32) (hR : RepM ca ad n g z zn tb f) (j : Nat) (hj : j ≤ 1000000) (ho : ¬ nI j < g 13 0) (h0 : n 0 ≤ 20) (h2 : n 2 ≤ 20) (hsz : ∀ i, i < 20 → zN g i ≤ 200 ∧ g 2 i = nI (zN g i)) (h4 : n 4 ≤ 200) (hsp : ∀ i, i < 20 → ¬ g 7 i < 0 → ¬ g 8 i = 0) : xMi l yX6_due wsX6_due rmX6_due [.ref (ad 302), .int (nI j)] D ca N ad B tR tK f (fun r u => mdR n g (nI j) = r ∧ ∃ (z1 : Nat → Nat → Int32) (zn1 : Nat), RepM ca ad (((mdS n g (nI j) (n 0)).1)) (((mdS n g (nI j) (n 0)).2)) z1 zn1 tb u ∧ ∀ y, (y < 302 ∨ 326 ≤ y) → u y = f y) := by
  refine x_open (cc := cX6_due) (maxL := 4) (ret := (some .int)) (by decide) rfl (Nat.le_of_ble_eq_true rfl) ?_
  intro p e s m below meth c ls hx hb hml hown hts hr hlocks hnm hB hK hE hw hl
  have hown : s.vm.findClass RX6 = some m.cls := hown
  have hl : lv_has ls 4 [(0, .ref (ad 302)), (1, .int (nI j))] := hl
  obtain ⟨c_302, c_303, c_304, c_305, c_306, c_307, c_308, c_309, c_310, c_311, c_312, c_313, c_314, c_315, c_316, c_317, c_318, c_319, c_320, c_321, c_322, c_323, c_324, c_325, hzn⟩ := hR
  have hin_7 : ∀ w ∈ u_ws RX6 TX6 32, w ∈ wsX6_due := by decide +kernel
  have hf_163 := hts (.fieldLink RX6 163 "FixityRowsModel" "files" "I") (by decide +kernel)
  have hf_238 := hts (.fieldLink RX6 238 "FixityRowsModel" "told" "I") (by decide +kernel)
  have hf_157 := hts (.fieldLink RX6 157 "FixityRowsModel" "capacity" "I") (by decide +kernel)
  have hf_42 := hts (.fieldLink RX6 42 "FixityRowsModel" "toldFile" "[I") (by decide +kernel)
  have hf_45 := hts (.fieldLink RX6 45 "FixityRowsModel" "toldFits" "[Z") (by decide +kernel)
  have hf_32 := hts (.fieldLink RX6 32 "FixityRowsModel" "due" "[I") (by decide +kernel)
  have hf_35 := hts (.fieldLink RX6 35 "FixityRowsModel" "span" "[I") (by decide +kernel)
  have hf_160 := hts (.fieldLink RX6 160 "FixityRowsModel" "thrown" "I") (by decide +kernel)
  have hf_38 := hts (.fieldLink RX6 38 "FixityRowsModel" "worked" "I") (by decide +kernel)
  have b_302 := c_302
  have b_303 := c_303
  have b_304 := c_304
  have b_305 := c_305
  have b_306 := c_306
  have b_307 := c_307
  have b_308 := c_308
  have b_309 := c_309
  have b_310 := c_310
  have b_311 := c_311
  have b_312 := c_312
  have b_313 := c_313
  have b_314 := c_314
  have b_315 := c_315
  have b_316 := c_316
  have b_317 := c_317
  have b_318 := c_318
  have b_319 := c_319
  have b_320 := c_320
  have b_321 := c_321
  have b_322 := c_322
  have b_323 := c_323
  have b_324 := c_324
  have b_325 := c_325
  have P_137 : ∀ (n_137 : Nat) (i : Nat) (fc : Nat → va_E) (zc : Nat → Nat → Int32) (znc : Nat) (H : Heap) (locs : List Loc) (ls : Array Slot), n 2 + 1 ≤ i + n_137 → (i ≤ n 2) → RepM ca ad ((mdS n g (nI j) (n 0)).1) ((mdS n g (nI j) (n 0)).2) zc znc tb fc → (∀ y, (y < 302 ∨ 326 ≤ y) → fc y = f y) → xw D vwCl N ad B s.heap fc H locs → lv_has ls 4 [(0, .ref (ad 302)), (1, .int (nI j)), (2, .int (nI (cwM ((mdS n g (nI j) (n 0)).2 7) (nI j) i))), (3, .int (nI i))] → W p l e rmX6_due s m ([.ref (ad 302), .int (nI j)] : List Value).toArray below meth c H locs 0 0 (MQ below (xQi (fun r u => mdR n g (nI j) = r ∧ ∃ (z1 : Nat → Nat → Int32) (zn1 : Nat), RepM ca ad (((mdS n g (nI j) (n 0)).1)) (((mdS n g (nI j) (n 0)).2)) z1 zn1 tb u ∧ ∀ y, (y < 302 ∨ 326 ≤ y) → u y = f y) D N ad B) ([.ref (ad 302), .int (nI j)] : List Value).toArray s 0 0 (xA B)) (F0 m 137 ls []) := by
    intro n_137
    induction n_137 with
    | zero =>
      intro i fc zc znc H locs ls hm_137 hi hRc hfr hw hl
      exact absurd hm_137 (by omega)
    | succ n_137 ih_137 =>
      intro i fc zc znc H locs ls hm_137 hi hRc hfr hw hl
      obtain ⟨n_1, en_1⟩ : ∃ x, x = (mdS n g (nI j) (n 0)).1 := ⟨_, rfl⟩
      obtain ⟨g_2, eg_2⟩ : ∃ x, x = (mdS n g (nI j) (n 0)).2 := ⟨_, rfl⟩
      rw [← en_1, ← eg_2] at hRc
      obtain ⟨c_302, c_303, c_304, c_305, c_306, c_307, c_308, c_309, c_310, c_311, c_312, c_313, c_314, c_315, c_316, c_317, c_318, c_319, c_320, c_321, c_322, c_323, c_324, c_325, hzn⟩ := hRc
      obtain ⟨d0, d2, dz, d4, d8, d7⟩ := mdS_facts (n := n) (g := g) (y := nI j) h4 (n 0)
      rw [← en_1] at d0 d2 d4
      rw [← eg_2] at dz d8 d7
      refine lv_iload_n hx hb dX6_due_137 rfl (lv_at hl 3 rfl) ?_
      refine lv_aload_n hx hb dX6_due_138 rfl (lv_at hl 0 rfl) ?_
      refine x_get (ci := 7) (C := RX6) (T := TX6) (n := 32) (ref := RX6) hx hb hts hin_7 hown hK hw 302 (by omega) c_302 rfl 4 (by decide) hf_163 (fun _ h => h) rfl dX6_due_139 ?_
      refine n_icge (tgt := 168) hx hb dX6_due_142 (by decide) (by omega) (by omega) (fun hc_142 => ?_) (fun hc_142 => ?_)
      · refine lv_iload_n hx hb dX6_due_168 rfl (lv_at hl 2 rfl) ?_
        refine lv_if_le (tgt := 179) hx hb dX6_due_169 (by decide) (fun hc_169 => ?_) (fun hc_169 => ?_)
        · have hz9 : cwM ((mdS n g (nI j) (n 0)).2 7) (nI j) i = 0 := by have := cwM_le ((mdS n g (nI j) (n 0)).2 7) (nI j) i; have h9 := nI_pos (show cwM ((mdS n g (nI j) (n 0)).2 7) (nI j) i < 2 ^ 31 by omega); rw [Int32.le_iff_toInt_le, nI_toInt (by omega)] at hc_169; have : (0 : Int32).toInt = 0 := (by decide); omega
          refine lv_aload_n hx hb dX6_due_179 rfl (lv_at hl 0 rfl) ?_
          refine x_get (ci := 7) (C := RX6) (T := TX6) (n := 32) (ref := RX6) hx hb hts hin_7 hown hK hw 302 (by omega) c_302 rfl 14 (by decide) hf_238 (fun _ h => h) rfl dX6_due_180 ?_
          have hRz : RepM ca ad n_1 g_2 zc znc tb fc := ⟨c_302,
                c_303,
                c_304,
                c_305,
                c_306,
                c_307,
                c_308,
                c_309,
                c_310,
                c_311,
                c_312,
                c_313,
                c_314,
                c_315,
                c_316,
                c_317,
                c_318,
                c_319,
                c_320,
                c_321,
                c_322,
                c_323,
                c_324,
                c_325, hzn⟩
          exact x_iret hx hb hr hlocks hw ⟨(by have ei : i = n 2 := (by omega); unfold mdR; rw [← ei]; first | rw [if_pos hz9, en_1] | rw [if_neg hz9]), zc, znc, (by rw [eg_2, en_1] at hRz; exact hRz), (fun y hy => hfr y hy)⟩ dX6_due_183
        · have hz9 : ¬ cwM ((mdS n g (nI j) (n 0)).2 7) (nI j) i = 0 := fun q => hc_169 (by rw [q]; decide)
          refine lv_bipush (v := (-10)) hx hb dX6_due_172 (by decide) ?_
          refine lv_iload_n hx hb dX6_due_174 rfl (lv_at hl 2 rfl) ?_
          refine lv_isub hx hb dX6_due_175 ?_
          refine lv_goto (tgt := 183) hx hb dX6_due_176 (by decide) ?_
          have hRz : RepM ca ad n_1 g_2 zc znc tb fc := ⟨c_302,
                c_303,
                c_304,
                c_305,
                c_306,
                c_307,
                c_308,
                c_309,
                c_310,
                c_311,
                c_312,
                c_313,
                c_314,
                c_315,
                c_316,
                c_317,
                c_318,
                c_319,
                c_320,
                c_321,
                c_322,
                c_323,
                c_324,
                c_325, hzn⟩
          exact x_iret hx hb hr hlocks hw ⟨(by have ei : i = n 2 := (by omega); unfold mdR; rw [← ei]; first | rw [if_pos hz9, en_1] | rw [if_neg hz9]), zc, znc, (by rw [eg_2, en_1] at hRz; exact hRz), (fun y hy => hfr y hy)⟩ dX6_due_183
      · refine lv_iload_n hx hb dX6_due_145 rfl (lv_at hl 2 rfl) ?_
        refine lv_aload_n hx hb dX6_due_146 rfl (lv_at hl 0 rfl) ?_
        refine lv_iload_n hx hb dX6_due_147 rfl (lv_at hl 3 rfl) ?_
        refine lv_iload_n hx hb dX6_due_148 rfl (lv_at hl 1 rfl) ?_
        refine x_Vi (q := 302) (As := [.int (nI i), .int (nI j)]) (rest := [.int (nI (cwM ((mdS n g (nI j) (n 0)).2 7) (nI j) i))]) ⟨hx, hb, hml, hown, hts⟩ (k_X6_isDue l D ca N ad B tR tK fc dd (n_1 7) (n_1 0) (n_1 1) (n_1 2) (g_2 13 0) (n_1 3) (n_1 4) (n_1 5) znc (g_2 7) i (nI j) c_302 c_310  (by omega) (by omega)) (cwV 2 hts gX6_due_X6_isDue rfl rfl rfl (by decide +kernel) ⟨Nat.le_of_ble_eq_true rfl, Nat.le_of_ble_eq_true rfl⟩) hK hE hB hw (by omega) c_302 rfl rfl rfl rfl hl.1 (Nat.le_of_ble_eq_true rfl) ⟨Nat.zero_le _, Nat.zero_le _⟩ dX6_due_149 (fun r_4 f_3 H locs hp hw => ?_)
        obtain ⟨er, eu⟩ := hp
        rw [← er]
        rw [← eu] at hw
        refine lv_if_eq (tgt := 159) hx hb dX6_due_152 (by decide) (fun hc_152 => ?_) (fun hc_152 => ?_)
        · refine lv_iconst (v := nI 0) hx hb dX6_due_159 (by decide) ?_
          refine n_iadd hx hb dX6_due_160 ?_
          refine lv_istore_n (lv' := [(2, .int (nI ((cwM ((mdS n g (nI j) (n 0)).2 7) (nI j) i) + 0))), (0, .ref (ad 302)), (1, .int (nI j)), (3, .int (nI i))]) hx hb dX6_due_161 rfl hl (by decide) rfl (fun ls hl => ?_)
          refine lv_iinc (v := nI (i + 1)) (lv' := [(3, .int (nI (i + 1))), (2, .int (nI ((cwM ((mdS n g (nI j) (n 0)).2 7) (nI j) i) + 0))), (0, .ref (ad 302)), (1, .int (nI j))]) hx hb dX6_due_162 hl (k := 3) rfl (by rw [show Int32.ofInt 1 = nI 1 from rfl]; exact nI_add _ _) (by decide) rfl (fun ls hl => ?_)
          refine lv_goto (tgt := 137) hx hb dX6_due_165 (by decide) ?_
          have hRk : RepM ca ad n_1 g_2 zc znc tb fc := ⟨c_302,
                c_303,
                c_304,
                c_305,
                c_306,
                c_307,
                c_308,
                c_309,
                c_310,
                c_311,
                c_312,
                c_313,
                c_314,
                c_315,
                c_316,
                c_317,
                c_318,
                c_319,
                c_320,
                c_321,
                c_322,
                c_323,
                c_324,
                c_325, hzn⟩
          have hfr : ∀ y, (y < 302 ∨ 326 ≤ y) → fc y = f y := (fun y hy => hfr y hy)
          have hRk : RepM ca ad ((mdS n g (nI j) (n 0)).1) ((mdS n g (nI j) (n 0)).2) zc znc tb fc := by rw [← en_1, ← eg_2]; exact hRk
          exact ih_137 (i + 1) _ _ _ _ _ _ (by omega) (by omega) hRk hfr hw (by have hl := lv_sub (l' := [(0, .ref (ad 302)), (1, .int (nI j)), (2, .int (nI ((cwM ((mdS n g (nI j) (n 0)).2 7) (nI j) i) + 0))), (3, .int (nI (i + 1)))]) hl [2, 3, 1, 0] rfl; first | (rw [cwM_no (by have := bI_z hc_152; rw [eg_2] at this; exact this)]; exact hl) | (rw [cwM_yes (by have := bI_nz hc_152; rw [eg_2] at this; exact this)]; exact hl))
        · refine lv_iconst (v := nI 1) hx hb dX6_due_155 (by decide) ?_
          refine lv_goto (tgt := 160) hx hb dX6_due_156 (by decide) ?_
          refine n_iadd hx hb dX6_due_160 ?_
          refine lv_istore_n (lv' := [(2, .int (nI ((cwM ((mdS n g (nI j) (n 0)).2 7) (nI j) i) + 1))), (0, .ref (ad 302)), (1, .int (nI j)), (3, .int (nI i))]) hx hb dX6_due_161 rfl hl (by decide) rfl (fun ls hl => ?_)
          refine lv_iinc (v := nI (i + 1)) (lv' := [(3, .int (nI (i + 1))), (2, .int (nI ((cwM ((mdS n g (nI j) (n 0)).2 7) (nI j) i) + 1))), (0, .ref (ad 302)), (1, .int (nI j))]) hx hb dX6_due_162 hl (k := 3) rfl (by rw [show Int32.ofInt 1 = nI 1 from rfl]; exact nI_add _ _) (by decide) rfl (fun ls hl => ?_)
          refine lv_goto (tgt := 137) hx hb dX6_due_165 (by decide) ?_
          have hRk : RepM ca ad n_1 g_2 zc znc tb fc := ⟨c_302,
                c_303,
                c_304,
                c_305,
                c_306,
                c_307,
                c_308,
                c_309,
                c_310,
                c_311,
                c_312,
                c_313,
                c_314,
                c_315,
                c_316,
                c_317,
                c_318,
                c_319,
                c_320,
                c_321,
                c_322,
                c_323,
                c_324,
                c_325, hzn⟩
          have hfr : ∀ y, (y < 302 ∨ 326 ≤ y) → fc y = f y := (fun y hy => hfr y hy)
          have hRk : RepM ca ad ((mdS n g (nI j) (n 0)).1) ((mdS n g (nI j) (n 0)).2) zc znc tb fc := by rw [← en_1, ← eg_2]; exact hRk
          exact ih_137 (i + 1) _ _ _ _ _ _ (by omega) (by omega) hRk hfr hw (by have hl := lv_sub (l' := [(0, .ref (ad 302)), (1, .int (nI j)), (2, .int (nI ((cwM ((mdS n g (nI j) (n 0)).2 7) (nI j) i) + 1))), (3, .int (nI (i + 1)))]) hl [2, 3, 1, 0] rfl; first | (rw [cwM_no (by have := bI_z hc_152; rw [eg_2] at this; exact this)]; exact hl) | (rw [cwM_yes (by have := bI_nz hc_152; rw [eg_2] at this; exact this)]; exact hl))
  have P_133 : ∀ (fc : Nat → va_E) (zc : Nat → Nat → Int32) (znc : Nat) (H : Heap) (locs : List Loc) (ls : Array Slot), RepM ca ad ((mdS n g (nI j) (n 0)).1) ((mdS n g (nI j) (n 0)).2) zc znc tb fc → (∀ y, (y < 302 ∨ 326 ≤ y) → fc y = f y) → xw D vwCl N ad B s.heap fc H locs → lv_has ls 4 [(0, .ref (ad 302)), (1, .int (nI j))] → W p l e rmX6_due s m ([.ref (ad 302), .int (nI j)] : List Value).toArray below meth c H locs 0 0 (MQ below (xQi (fun r u => mdR n g (nI j) = r ∧ ∃ (z1 : Nat → Nat → Int32) (zn1 : Nat), RepM ca ad (((mdS n g (nI j) (n 0)).1)) (((mdS n g (nI j) (n 0)).2)) z1 zn1 tb u ∧ ∀ y, (y < 302 ∨ 326 ≤ y) → u y = f y) D N ad B) ([.ref (ad 302), .int (nI j)] : List Value).toArray s 0 0 (xA B)) (F0 m 133 ls []) := by
    intro fc zc znc H locs ls hRc hfr hw hl
    obtain ⟨n_5, en_5⟩ : ∃ x, x = (mdS n g (nI j) (n 0)).1 := ⟨_, rfl⟩
    obtain ⟨g_6, eg_6⟩ : ∃ x, x = (mdS n g (nI j) (n 0)).2 := ⟨_, rfl⟩
    rw [← en_5, ← eg_6] at hRc
    obtain ⟨c_302, c_303, c_304, c_305, c_306, c_307, c_308, c_309, c_310, c_311, c_312, c_313, c_314, c_315, c_316, c_317, c_318, c_319, c_320, c_321, c_322, c_323, c_324, c_325, hzn⟩ := hRc
    obtain ⟨d0, d2, dz, d4, d8, d7⟩ := mdS_facts (n := n) (g := g) (y := nI j) h4 (n 0)
    rw [← en_5] at d0 d2 d4
    rw [← eg_6] at dz d8 d7
    refine lv_iconst (v := nI 0) hx hb dX6_due_133 (by decide) ?_
    refine lv_istore_n (lv' := [(2, .int (nI 0)), (0, .ref (ad 302)), (1, .int (nI j))]) hx hb dX6_due_134 rfl hl (by decide) rfl (fun ls hl => ?_)
    refine lv_iconst (v := nI 0) hx hb dX6_due_135 (by decide) ?_
    refine lv_istore_n (lv' := [(3, .int (nI 0)), (2, .int (nI 0)), (0, .ref (ad 302)), (1, .int (nI j))]) hx hb dX6_due_136 rfl hl (by decide) rfl (fun ls hl => ?_)
    have hRk : RepM ca ad n_5 g_6 zc znc tb fc := ⟨c_302,
          c_303,
          c_304,
          c_305,
          c_306,
          c_307,
          c_308,
          c_309,
          c_310,
          c_311,
          c_312,
          c_313,
          c_314,
          c_315,
          c_316,
          c_317,
          c_318,
          c_319,
          c_320,
          c_321,
          c_322,
          c_323,
          c_324,
          c_325, hzn⟩
    have hfr : ∀ y, (y < 302 ∨ 326 ≤ y) → fc y = f y := (fun y hy => hfr y hy)
    have hRk : RepM ca ad ((mdS n g (nI j) (n 0)).1) ((mdS n g (nI j) (n 0)).2) zc znc tb fc := by rw [← en_5, ← eg_6]; exact hRk
    exact P_137 ((n 2 + 1)) 0 _ _ _ _ _ _ (by omega) (by omega) hRk hfr hw (by have hl := lv_sub (l' := [(0, .ref (ad 302)), (1, .int (nI j)), (2, .int (nI 0)), (3, .int (nI 0))]) hl [2, 3, 1, 0] rfl; exact hl)
  have P_36 : ∀ (n_36 : Nat) (k : Nat) (fc : Nat → va_E) (zc : Nat → Nat → Int32) (znc : Nat) (H : Heap) (locs : List Loc) (ls : Array Slot), n 0 + 1 ≤ k + n_36 → (k ≤ n 0) → ((mdS n g (nI j) k).1 3 = k) → RepM ca ad ((mdS n g (nI j) k).1) ((mdS n g (nI j) k).2) zc znc tb fc → (∀ y, (y < 302 ∨ 326 ≤ y) → fc y = f y) → xw D vwCl N ad B s.heap fc H locs → lv_has ls 4 [(0, .ref (ad 302)), (1, .int (nI j))] → W p l e rmX6_due s m ([.ref (ad 302), .int (nI j)] : List Value).toArray below meth c H locs 0 0 (MQ below (xQi (fun r u => mdR n g (nI j) = r ∧ ∃ (z1 : Nat → Nat → Int32) (zn1 : Nat), RepM ca ad (((mdS n g (nI j) (n 0)).1)) (((mdS n g (nI j) (n 0)).2)) z1 zn1 tb u ∧ ∀ y, (y < 302 ∨ 326 ≤ y) → u y = f y) D N ad B) ([.ref (ad 302), .int (nI j)] : List Value).toArray s 0 0 (xA B)) (F0 m 36 ls []) := by
    intro n_36
    induction n_36 with
    | zero =>
      intro k fc zc znc H locs ls hm_36 hk hk3 hRc hfr hw hl
      exact absurd hm_36 (by omega)
    | succ n_36 ih_36 =>
      intro k fc zc znc H locs ls hm_36 hk hk3 hRc hfr hw hl
      obtain ⟨n_7, en_7⟩ : ∃ x, x = (mdS n g (nI j) k).1 := ⟨_, rfl⟩
      obtain ⟨g_8, eg_8⟩ : ∃ x, x = (mdS n g (nI j) k).2 := ⟨_, rfl⟩
      rw [← en_7, ← eg_8] at hRc
      obtain ⟨c_302, c_303, c_304, c_305, c_306, c_307, c_308, c_309, c_310, c_311, c_312, c_313, c_314, c_315, c_316, c_317, c_318, c_319, c_320, c_321, c_322, c_323, c_324, c_325, hzn⟩ := hRc
      obtain ⟨d0, d2, dz, d4, d8, d7⟩ := mdS_facts (n := n) (g := g) (y := nI j) h4 k
      rw [← en_7] at d0 d2 d4
      rw [← eg_8] at dz d8 d7
      have d3 : n_7 3 = k := by rw [en_7]; exact hk3
      refine lv_aload_n hx hb dX6_due_36 rfl (lv_at hl 0 rfl) ?_
      refine x_get (ci := 7) (C := RX6) (T := TX6) (n := 32) (ref := RX6) hx hb hts hin_7 hown hK hw 302 (by omega) c_302 rfl 14 (by decide) hf_238 (fun _ h => h) rfl dX6_due_37 ?_
      refine lv_aload_n hx hb dX6_due_40 rfl (lv_at hl 0 rfl) ?_
      refine x_get (ci := 7) (C := RX6) (T := TX6) (n := 32) (ref := RX6) hx hb hts hin_7 hown hK hw 302 (by omega) c_302 rfl 1 (by decide) hf_157 (fun _ h => h) rfl dX6_due_41 ?_
      refine n_icge (tgt := 133) hx hb dX6_due_44 (by decide) (by omega) (by omega) (fun hc_44 => ?_) (fun hc_44 => ?_)
      · have hRk : RepM ca ad n_7 g_8 zc znc tb fc := ⟨c_302,
              c_303,
              c_304,
              c_305,
              c_306,
              c_307,
              c_308,
              c_309,
              c_310,
              c_311,
              c_312,
              c_313,
              c_314,
              c_315,
              c_316,
              c_317,
              c_318,
              c_319,
              c_320,
              c_321,
              c_322,
              c_323,
              c_324,
              c_325, hzn⟩
        have hfr : ∀ y, (y < 302 ∨ 326 ≤ y) → fc y = f y := (fun y hy => hfr y hy)
        have hRk : RepM ca ad ((mdS n g (nI j) (n 0)).1) ((mdS n g (nI j) (n 0)).2) zc znc tb fc := by have ek : k = n 0 := (by omega); rw [← ek, ← en_7, ← eg_8]; exact hRk
        exact P_133  _ _ _ _ _ _  hRk hfr hw (lv_sub hl [0, 1] rfl)
      · refine lv_aload_n hx hb dX6_due_47 rfl (lv_at hl 0 rfl) ?_
        refine lv_iload_n hx hb dX6_due_48 rfl (lv_at hl 1 rfl) ?_
        have hRk : RepM ca ad n_7 g_8 zc znc tb fc := ⟨c_302,
              c_303,
              c_304,
              c_305,
              c_306,
              c_307,
              c_308,
              c_309,
              c_310,
              c_311,
              c_312,
              c_313,
              c_314,
              c_315,
              c_316,
              c_317,
              c_318,
              c_319,
              c_320,
              c_321,
              c_322,
              c_323,
              c_324,
              c_325, hzn⟩
        have hfr : ∀ y, (y < 302 ∨ 326 ≤ y) → fc y = f y := (fun y hy => hfr y hy)
        refine x_Vi (q := 302) (As := [.int (nI j)]) (rest := []) ⟨hx, hb, hml, hown, hts⟩ (k_X6_first l D ca N ad B tR tK fc dd hN n_7 g_8 zc znc tb hRk (nI j) (by omega)) (cwV 1 hts gX6_due_X6_first rfl rfl rfl (by decide +kernel) ⟨Nat.le_of_ble_eq_true rfl, Nat.le_of_ble_eq_true rfl⟩) hK hE hB hw (by omega) c_302 rfl rfl rfl rfl hl.1 (Nat.le_of_ble_eq_true rfl) ⟨Nat.zero_le _, Nat.zero_le _⟩ dX6_due_49 (fun r_10 f_9 H locs hp hw => ?_)
        obtain ⟨er, hp⟩ := hp
        rw [← er]
        rw [← hp] at hw
        refine lv_iconst (v := (-1)) hx hb dX6_due_52 (by decide) ?_
        refine lv_icmp_eq (tgt := 133) hx hb dX6_due_53 (by decide) (fun hc_53 => ?_) (fun hc_53 => ?_)
        · have hRk : RepM ca ad n_7 g_8 zc znc tb fc := ⟨c_302,
                c_303,
                c_304,
                c_305,
                c_306,
                c_307,
                c_308,
                c_309,
                c_310,
                c_311,
                c_312,
                c_313,
                c_314,
                c_315,
                c_316,
                c_317,
                c_318,
                c_319,
                c_320,
                c_321,
                c_322,
                c_323,
                c_324,
                c_325, hzn⟩
          have hfr : ∀ y, (y < 302 ∨ 326 ≤ y) → fc y = f y := (fun y hy => hfr y hy)
          have hRk : RepM ca ad ((mdS n g (nI j) (n 0)).1) ((mdS n g (nI j) (n 0)).2) zc znc tb fc := by have e8 := mdS_stop (n := n) (g := g) (y := nI j) (k := k) (by rw [← eg_8, ← d2]; exact oI_none hc_53 (fun q hq => by have := lwM_lt _ _ _ _ hq; omega)) (n 0 - k); rw [show k + (n 0 - k) = n 0 by omega] at e8; rw [e8, ← en_7, ← eg_8]; exact hRk
          exact P_133  _ _ _ _ _ _  hRk hfr hw (lv_sub hl [0, 1] rfl)
        · refine lv_aload_n hx hb dX6_due_56 rfl (lv_at hl 0 rfl) ?_
          refine lv_iload_n hx hb dX6_due_57 rfl (lv_at hl 1 rfl) ?_
          have hRk : RepM ca ad n_7 g_8 zc znc tb fc := ⟨c_302,
                c_303,
                c_304,
                c_305,
                c_306,
                c_307,
                c_308,
                c_309,
                c_310,
                c_311,
                c_312,
                c_313,
                c_314,
                c_315,
                c_316,
                c_317,
                c_318,
                c_319,
                c_320,
                c_321,
                c_322,
                c_323,
                c_324,
                c_325, hzn⟩
          have hfr : ∀ y, (y < 302 ∨ 326 ≤ y) → fc y = f y := (fun y hy => hfr y hy)
          refine x_Vi (q := 302) (As := [.int (nI j)]) (rest := []) ⟨hx, hb, hml, hown, hts⟩ (k_X6_first l D ca N ad B tR tK fc dd hN n_7 g_8 zc znc tb hRk (nI j) (by omega)) (cwV 1 hts gX6_due_X6_first rfl rfl rfl (by decide +kernel) ⟨Nat.le_of_ble_eq_true rfl, Nat.le_of_ble_eq_true rfl⟩) hK hE hB hw (by omega) c_302 rfl rfl rfl rfl hl.1 (Nat.le_of_ble_eq_true rfl) ⟨Nat.zero_le _, Nat.zero_le _⟩ dX6_due_58 (fun r_12 f_11 H locs hp hw => ?_)
          obtain ⟨er, hp⟩ := hp
          rw [← er]
          rw [← hp] at hw
          refine lv_topi (fun x_13 ex_13 => ?_)
          refine lv_istore_n (lv' := [(2, .int x_13), (0, .ref (ad 302)), (1, .int (nI j))]) hx hb dX6_due_61 rfl hl (by decide) rfl (fun ls hl => ?_)
          obtain ⟨j9, ej9⟩ := oI_some hc_53
          have hj9 := lwM_lt _ _ _ _ ej9
          have hj8 := lwM_due _ _ _ _ ej9
          have ex9 : x_13 = nI j9 := by rw [ex_13, ej9]; rfl
          rw [ex9] at hl
          refine lv_aload_n hx hb dX6_due_62 rfl (lv_at hl 1 rfl) ?_
          refine x_get (ci := 7) (C := RX6) (T := TX6) (n := 32) (ref := RX6) hx hb hts hin_7 hown hK hw 302 (by omega) c_302 rfl 15 (by decide) hf_42 (fun _ h => h) rfl dX6_due_63 ?_
          refine lv_aload_n hx hb dX6_due_66 rfl (lv_at hl 1 rfl) ?_
          refine x_get (ci := 7) (C := RX6) (T := TX6) (n := 32) (ref := RX6) hx hb hts hin_7 hown hK hw 302 (by omega) c_302 rfl 14 (by decide) hf_238 (fun _ h => h) rfl dX6_due_67 ?_
          refine lv_iload_n hx hb dX6_due_70 rfl (lv_at hl 0 rfl) ?_
          refine x_iast (j := n_7 3) hx hb hK dd hw 312 0 (by omega) c_312 rfl rfl (by omega) (by decide) dX6_due_71 (fun H locs hw => ?_)
          obtain ⟨f_14, ef_14⟩ : ∃ z, z = va_up fc 312 (ai (ca 0) 20 (upd (g_8 9) (n_7 3) (nI j9))) := ⟨_, rfl⟩
          have hw : xw D vwCl N ad B s.heap f_14 H locs := by rw [ef_14]; exact hw
          have c_312 : f_14 312 = ai (ca 0) 20 (upd (g_8 9) (n_7 3) (nI j9)) := va_up_of ef_14
          refine lv_aload_n hx hb dX6_due_72 rfl (lv_at hl 1 rfl) ?_
          have c_302 : f_14 302 = .inr (7, mO ad (n_7 7) (n_7 0) (n_7 1) (n_7 2) (g_8 13 0) (n_7 3) (n_7 4) (n_7 5) znc) := by rw [ef_14, va_up_ne _ _ (by decide)]; exact c_302
          refine x_get (ci := 7) (C := RX6) (T := TX6) (n := 32) (ref := RX6) hx hb hts hin_7 hown hK hw 302 (by omega) c_302 rfl 16 (by decide) hf_45 (fun _ h => h) rfl dX6_due_73 ?_
          refine lv_aload_n hx hb dX6_due_76 rfl (lv_at hl 1 rfl) ?_
          refine x_get (ci := 7) (C := RX6) (T := TX6) (n := 32) (ref := RX6) hx hb hts hin_7 hown hK hw 302 (by omega) c_302 rfl 14 (by decide) hf_238 (fun _ h => h) rfl dX6_due_77 ?_
          rcases (show (mFit (va_up g_8 9 (upd (g_8 9) (n_7 3) (nI j9))) j9 j9 (zN (va_up g_8 9 (upd (g_8 9) (n_7 3) (nI j9))) j9) ∧ n_7 4 < 200) ∨ (mFit (va_up g_8 9 (upd (g_8 9) (n_7 3) (nI j9))) j9 j9 (zN (va_up g_8 9 (upd (g_8 9) (n_7 3) (nI j9))) j9) ∧ n_7 4 = 200) ∨ (¬ mFit (va_up g_8 9 (upd (g_8 9) (n_7 3) (nI j9))) j9 j9 (zN (va_up g_8 9 (upd (g_8 9) (n_7 3) (nI j9))) j9) ∧ n_7 4 < 200) ∨ (¬ mFit (va_up g_8 9 (upd (g_8 9) (n_7 3) (nI j9))) j9 j9 (zN (va_up g_8 9 (upd (g_8 9) (n_7 3) (nI j9))) j9) ∧ n_7 4 = 200) from (Classical.em (mFit (va_up g_8 9 (upd (g_8 9) (n_7 3) (nI j9))) j9 j9 (zN (va_up g_8 9 (upd (g_8 9) (n_7 3) (nI j9))) j9))).elim (fun a => (show n_7 4 < 200 ∨ n_7 4 = 200 by omega).elim (fun b => Or.inl ⟨a, b⟩) (fun b => Or.inr (Or.inl ⟨a, b⟩))) (fun a => (show n_7 4 < 200 ∨ n_7 4 = 200 by omega).elim (fun b => Or.inr (Or.inr (Or.inl ⟨a, b⟩))) (fun b => Or.inr (Or.inr (Or.inr ⟨a, b⟩))))) with ⟨hf9, hr9⟩ | ⟨hf9, hr9⟩ | ⟨hf9, hr9⟩ | ⟨hf9, hr9⟩
          · refine lv_aload_n hx hb dX6_due_80 rfl (lv_at hl 1 rfl) ?_
            refine lv_iload_n hx hb dX6_due_81 rfl (lv_at hl 0 rfl) ?_
            refine lv_iload_n hx hb dX6_due_82 rfl (lv_at hl 2 rfl) ?_
            have c_303 : f_14 303 = ai (ca 1) 200 (g_8 0) := by rw [ef_14, va_up_ne _ _ (by decide)]; exact c_303
            have c_304 : f_14 304 = ai (ca 1) 4000 (g_8 1) := by rw [ef_14, va_up_ne _ _ (by decide)]; exact c_304
            have c_305 : f_14 305 = ai (ca 0) 20 (g_8 2) := by rw [ef_14, va_up_ne _ _ (by decide)]; exact c_305
            have c_306 : f_14 306 = ai (ca 0) 20 (g_8 3) := by rw [ef_14, va_up_ne _ _ (by decide)]; exact c_306
            have c_307 : f_14 307 = ai (ca 1) 720 (g_8 4) := by rw [ef_14, va_up_ne _ _ (by decide)]; exact c_307
            have c_308 : f_14 308 = ai (ca 0) 20 (g_8 5) := by rw [ef_14, va_up_ne _ _ (by decide)]; exact c_308
            have c_309 : f_14 309 = ai (ca 0) 20 (g_8 6) := by rw [ef_14, va_up_ne _ _ (by decide)]; exact c_309
            have c_310 : f_14 310 = ai (ca 0) 20 (g_8 7) := by rw [ef_14, va_up_ne _ _ (by decide)]; exact c_310
            have c_311 : f_14 311 = ai (ca 0) 20 (g_8 8) := by rw [ef_14, va_up_ne _ _ (by decide)]; exact c_311
            have c_313 : f_14 313 = ai (ca 2) 20 (g_8 10) := by rw [ef_14, va_up_ne _ _ (by decide)]; exact c_313
            have c_314 : f_14 314 = ai (ca 0) 200 (g_8 11) := by rw [ef_14, va_up_ne _ _ (by decide)]; exact c_314
            have c_315 : f_14 315 = ai (ca 0) 200 (g_8 12) := by rw [ef_14, va_up_ne _ _ (by decide)]; exact c_315
            have c_316 : f_14 316 = ai (ca 0) 200 (g_8 14) := by rw [ef_14, va_up_ne _ _ (by decide)]; exact c_316
            have c_317 : f_14 317 = ai (ca 1) 6400 (g_8 15) := by rw [ef_14, va_up_ne _ _ (by decide)]; exact c_317
            have c_318 : f_14 318 = ai (ca 1) 32 (g_8 16) := by rw [ef_14, va_up_ne _ _ (by decide)]; exact c_318
            have c_319 : f_14 319 = ai (ca 1) 320 (zc 0) := by rw [ef_14, va_up_ne _ _ (by decide)]; exact c_319
            have c_320 : f_14 320 = ai (ca 1) 36 (zc 1) := by rw [ef_14, va_up_ne _ _ (by decide)]; exact c_320
            have c_321 : f_14 321 = ai (ca 0) 64 (zc 2) := by rw [ef_14, va_up_ne _ _ (by decide)]; exact c_321
            have c_322 : f_14 322 = ai (ca 0) 8 (zc 3) := by rw [ef_14, va_up_ne _ _ (by decide)]; exact c_322
            have c_323 : f_14 323 = ai (ca 0) 8 (zc 4) := by rw [ef_14, va_up_ne _ _ (by decide)]; exact c_323
            have c_324 : f_14 324 = ai (ca 0) 8 shR := by rw [ef_14, va_up_ne _ _ (by decide)]; exact c_324
            have c_325 : f_14 325 = ai (ca 0) 64 shK := by rw [ef_14, va_up_ne _ _ (by decide)]; exact c_325
            have qg_0 : (va_up g_8 9 (upd (g_8 9) (n_7 3) (nI j9))) 0 = g_8 0 := by rw [va_up_ne _ _ (by decide)]
            have qg_1 : (va_up g_8 9 (upd (g_8 9) (n_7 3) (nI j9))) 1 = g_8 1 := by rw [va_up_ne _ _ (by decide)]
            have qg_2 : (va_up g_8 9 (upd (g_8 9) (n_7 3) (nI j9))) 2 = g_8 2 := by rw [va_up_ne _ _ (by decide)]
            have qg_3 : (va_up g_8 9 (upd (g_8 9) (n_7 3) (nI j9))) 3 = g_8 3 := by rw [va_up_ne _ _ (by decide)]
            have qg_4 : (va_up g_8 9 (upd (g_8 9) (n_7 3) (nI j9))) 4 = g_8 4 := by rw [va_up_ne _ _ (by decide)]
            have qg_5 : (va_up g_8 9 (upd (g_8 9) (n_7 3) (nI j9))) 5 = g_8 5 := by rw [va_up_ne _ _ (by decide)]
            have qg_6 : (va_up g_8 9 (upd (g_8 9) (n_7 3) (nI j9))) 6 = g_8 6 := by rw [va_up_ne _ _ (by decide)]
            have qg_7 : (va_up g_8 9 (upd (g_8 9) (n_7 3) (nI j9))) 7 = g_8 7 := by rw [va_up_ne _ _ (by decide)]
            have qg_8 : (va_up g_8 9 (upd (g_8 9) (n_7 3) (nI j9))) 8 = g_8 8 := by rw [va_up_ne _ _ (by decide)]
            have qg_9 : (va_up g_8 9 (upd (g_8 9) (n_7 3) (nI j9))) 9 = upd (g_8 9) (n_7 3) (nI j9) := by rw [va_up_self]
            have qg_10 : (va_up g_8 9 (upd (g_8 9) (n_7 3) (nI j9))) 10 = g_8 10 := by rw [va_up_ne _ _ (by decide)]
            have qg_11 : (va_up g_8 9 (upd (g_8 9) (n_7 3) (nI j9))) 11 = g_8 11 := by rw [va_up_ne _ _ (by decide)]
            have qg_12 : (va_up g_8 9 (upd (g_8 9) (n_7 3) (nI j9))) 12 = g_8 12 := by rw [va_up_ne _ _ (by decide)]
            have qg_13 : (va_up g_8 9 (upd (g_8 9) (n_7 3) (nI j9))) 13 = g_8 13 := by rw [va_up_ne _ _ (by decide)]
            have qg_14 : (va_up g_8 9 (upd (g_8 9) (n_7 3) (nI j9))) 14 = g_8 14 := by rw [va_up_ne _ _ (by decide)]
            have qg_15 : (va_up g_8 9 (upd (g_8 9) (n_7 3) (nI j9))) 15 = g_8 15 := by rw [va_up_ne _ _ (by decide)]
            have qg_16 : (va_up g_8 9 (upd (g_8 9) (n_7 3) (nI j9))) 16 = g_8 16 := by rw [va_up_ne _ _ (by decide)]
            have hRk : RepM ca ad n_7 (va_up g_8 9 (upd (g_8 9) (n_7 3) (nI j9))) zc znc tb f_14 := ⟨(by rw [qg_13]; exact c_302),
                  (by rw [qg_0]; exact c_303),
                  (by rw [qg_1]; exact c_304),
                  (by rw [qg_2]; exact c_305),
                  (by rw [qg_3]; exact c_306),
                  (by rw [qg_4]; exact c_307),
                  (by rw [qg_5]; exact c_308),
                  (by rw [qg_6]; exact c_309),
                  (by rw [qg_7]; exact c_310),
                  (by rw [qg_8]; exact c_311),
                  (by rw [qg_9]; exact c_312),
                  (by rw [qg_10]; exact c_313),
                  (by rw [qg_11]; exact c_314),
                  (by rw [qg_12]; exact c_315),
                  (by rw [qg_14]; exact c_316),
                  (by rw [qg_15]; exact c_317),
                  (by rw [qg_16]; exact c_318),
                  c_319,
                  c_320,
                  c_321,
                  c_322,
                  c_323,
                  c_324,
                  c_325, hzn⟩
            have hfr : ∀ y, (y < 302 ∨ 326 ≤ y) → f_14 y = f y := (fun y hy => by rw [ef_14, va_up_ne _ _ (by omega)]; exact hfr y hy)
            refine x_Vi (q := 302) (As := [.int (nI j9), .int (nI j)]) (rest := [.int (nI (n_7 3)), .ref (ad 313)]) ⟨hx, hb, hml, hown, hts⟩ (k_X6_check_fit l D ca N ad B tR tK f_14 dd hN n_7 (va_up g_8 9 (upd (g_8 9) (n_7 3) (nI j9))) zc znc tb hRk j9 (nI j) (zN g j9) (by omega) (by show va_up g_8 9 _ 2 j9 = _; rw [va_up_ne _ _ (by decide), dz]; exact (hsz j9 (by omega)).2) (hsz j9 (by omega)).1 hr9 (by have ezN : zN (va_up g_8 9 (upd (g_8 9) (n_7 3) (nI j9))) j9 = zN g j9 := (by unfold zN; rw [va_up_ne _ _ (by decide), dz]); rw [← ezN]; exact hf9)) (cwV 2 hts gX6_due_X6_check rfl rfl rfl (by decide +kernel) ⟨Nat.le_of_ble_eq_true rfl, Nat.le_of_ble_eq_true rfl⟩) hK hE hB hw (by omega) c_302 rfl rfl rfl rfl hl.1 (Nat.le_of_ble_eq_true rfl) ⟨Nat.zero_le _, Nat.zero_le _⟩ dX6_due_83 (fun r_16 f_15 H locs hp hw => ?_)
            obtain ⟨er, hp⟩ := hp
            rw [← er]
            obtain ⟨z_17, zn_18, hR2, hfr2⟩ := hp
            obtain ⟨n_19, en_19⟩ : ∃ x, x = va_up n_7 4 ((n_7 4) + 1) := ⟨_, rfl⟩
            obtain ⟨g_20, eg_20⟩ : ∃ x, x = va_up (va_up (va_up (va_up (va_up (va_up g_8 9 (upd (g_8 9) (n_7 3) (nI j9))) 5 (upd ((va_up g_8 9 (upd (g_8 9) (n_7 3) (nI j9))) 5) j9 (nI j))) 11 (upd ((va_up g_8 9 (upd (g_8 9) (n_7 3) (nI j9))) 11) (n_7 4) (nI 1))) 12 (upd ((va_up g_8 9 (upd (g_8 9) (n_7 3) (nI j9))) 12) (n_7 4) (nI j9))) 14 (upd ((va_up g_8 9 (upd (g_8 9) (n_7 3) (nI j9))) 14) (n_7 4) (nI j))) 15 (rowB ((va_up g_8 9 (upd (g_8 9) (n_7 3) (nI j9))) 15) (rowS ((va_up g_8 9 (upd (g_8 9) (n_7 3) (nI j9))) 15) (n_7 4) (nI 1) (nI j9) (nI j)) (n_7 4)) := ⟨_, rfl⟩
            rw [← en_19, ← eg_20] at hR2
            have hfr : ∀ y, (y < 302 ∨ 326 ≤ y) → f_15 y = f y := fun y hy => (hfr2 y hy).trans (hfr y hy)
            obtain ⟨c_302, c_303, c_304, c_305, c_306, c_307, c_308, c_309, c_310, c_311, c_312, c_313, c_314, c_315, c_316, c_317, c_318, c_319, c_320, c_321, c_322, c_323, c_324, c_325, hzn⟩ := hR2
            obtain ⟨q1, q2, q3⟩ := mchkG_fit (y := nI j) hf9 hr9
            have eC : g_20 = mchkG n_7 (mdG1 n_7 g_8 j9) j9 (nI j) := (show g_20 = mchkG n_7 (va_up g_8 9 (upd (g_8 9) (n_7 3) (nI j9))) j9 (nI j) by rw [q1]; exact eg_20)
            have eN : n_19 = mchkN n_7 := by rw [q2]; exact en_19
            have hnz : ¬ g_20 8 j9 = 0 := by rw [eC, mchkG_at (by decide) (by decide)]; show ¬ va_up g_8 9 _ 8 j9 = 0; rw [va_up_ne _ _ (by decide), d8]; exact hsp j9 (by omega) (d7 j9 hj8.1)
            have n3 : n_19 3 = k := by rw [eN, mchkN_at (by decide)]; exact d3
            refine x_zast (j := n_7 3) hx hb hK dd hw 313 2 (by omega) c_313 rfl rfl (by omega) (by decide) (by first | exact Or.inl rfl | exact Or.inr rfl) dX6_due_86 (fun H locs hw => ?_)
            obtain ⟨f_21, ef_21⟩ : ∃ z, z = va_up f_15 313 (ai (ca 2) 20 (upd (g_20 10) (n_7 3) (nI 1))) := ⟨_, rfl⟩
            have hw : xw D vwCl N ad B s.heap f_21 H locs := by rw [ef_21]; exact hw
            have c_313 : f_21 313 = ai (ca 2) 20 (upd (g_20 10) (n_7 3) (nI 1)) := va_up_of ef_21
            refine lv_aload_n hx hb dX6_due_87 rfl (lv_at hl 1 rfl) ?_
            refine lv_dup hx hb dX6_due_88 rfl ?_
            have c_302 : f_21 302 = .inr (7, mO ad (n_19 7) (n_19 0) (n_19 1) (n_19 2) (g_20 13 0) (n_19 3) (n_19 4) (n_19 5) zn_18) := by rw [ef_21, va_up_ne _ _ (by decide)]; exact c_302
            refine x_get (ci := 7) (C := RX6) (T := TX6) (n := 32) (ref := RX6) hx hb hts hin_7 hown hK hw 302 (by omega) c_302 rfl 14 (by decide) hf_238 (fun _ h => h) rfl dX6_due_89 ?_
            refine lv_iconst (v := nI 1) hx hb dX6_due_92 (by decide) ?_
            refine n_iadd hx hb dX6_due_93 ?_
            refine x_put (ci := 7) (C := RX6) (T := TX6) (n := 32) (ref := RX6) (fs' := mO ad (n_19 7) (n_19 0) (n_19 1) (n_19 2) (g_20 13 0) ((n_19 3) + 1) (n_19 4) (n_19 5) zn_18) hx hb hts hin_7 tyX6 tyX6_ok nmX6 hown hK dd hw 302 (by omega) c_302 rfl 14 (by decide) hf_238 (fun _ h => h) rfl rfl rfl (Nat.le_of_ble_eq_true rfl) rfl dX6_due_94 (fun H locs hw => ?_)
            obtain ⟨f_22, ef_22⟩ : ∃ z, z = va_up f_21 302 (.inr (7, mO ad (n_19 7) (n_19 0) (n_19 1) (n_19 2) (g_20 13 0) ((n_19 3) + 1) (n_19 4) (n_19 5) zn_18)) := ⟨_, rfl⟩
            have hw : xw D vwCl N ad B s.heap f_22 H locs := by rw [ef_22]; exact hw
            have c_302 : f_22 302 = .inr (7, mO ad (n_19 7) (n_19 0) (n_19 1) (n_19 2) (g_20 13 0) ((n_19 3) + 1) (n_19 4) (n_19 5) zn_18) := va_up_of ef_22
            refine lv_aload_n hx hb dX6_due_97 rfl (lv_at hl 1 rfl) ?_
            refine x_get (ci := 7) (C := RX6) (T := TX6) (n := 32) (ref := RX6) hx hb hts hin_7 hown hK hw 302 (by omega) c_302 rfl 11 (by decide) hf_32 (fun _ h => h) rfl dX6_due_98 ?_
            refine lv_iload_n hx hb dX6_due_101 rfl (lv_at hl 0 rfl) ?_
            refine lv_dup2_11 hx hb dX6_due_102 rfl rfl ?_
            have c_310 : f_22 310 = ai (ca 0) 20 (g_20 7) := by rw [ef_22, va_up_ne _ _ (by decide), ef_21, va_up_ne _ _ (by decide)]; exact c_310
            refine x_iald (j := j9) hx hb hK hw 310 0 (by omega) c_310 rfl rfl (by omega) (by decide) dX6_due_103 ?_
            refine lv_aload_n hx hb dX6_due_104 rfl (lv_at hl 1 rfl) ?_
            refine x_get (ci := 7) (C := RX6) (T := TX6) (n := 32) (ref := RX6) hx hb hts hin_7 hown hK hw 302 (by omega) c_302 rfl 12 (by decide) hf_35 (fun _ h => h) rfl dX6_due_105 ?_
            refine lv_iload_n hx hb dX6_due_108 rfl (lv_at hl 0 rfl) ?_
            have c_311 : f_22 311 = ai (ca 0) 20 (g_20 8) := by rw [ef_22, va_up_ne _ _ (by decide), ef_21, va_up_ne _ _ (by decide)]; exact c_311
            refine x_iald (j := j9) hx hb hK hw 311 0 (by omega) c_311 rfl rfl (by omega) (by decide) dX6_due_109 ?_
            refine lv_iload_n hx hb dX6_due_110 rfl (lv_at hl 2 rfl) ?_
            refine lv_aload_n hx hb dX6_due_111 rfl (lv_at hl 1 rfl) ?_
            refine x_get (ci := 7) (C := RX6) (T := TX6) (n := 32) (ref := RX6) hx hb hts hin_7 hown hK hw 302 (by omega) c_302 rfl 11 (by decide) hf_32 (fun _ h => h) rfl dX6_due_112 ?_
            refine lv_iload_n hx hb dX6_due_115 rfl (lv_at hl 0 rfl) ?_
            refine x_iald (j := j9) hx hb hK hw 310 0 (by omega) c_310 rfl rfl (by omega) (by decide) dX6_due_116 ?_
            refine lv_isub hx hb dX6_due_117 ?_
            refine lv_aload_n hx hb dX6_due_118 rfl (lv_at hl 1 rfl) ?_
            refine x_get (ci := 7) (C := RX6) (T := TX6) (n := 32) (ref := RX6) hx hb hts hin_7 hown hK hw 302 (by omega) c_302 rfl 12 (by decide) hf_35 (fun _ h => h) rfl dX6_due_119 ?_
            refine lv_iload_n hx hb dX6_due_122 rfl (lv_at hl 0 rfl) ?_
            refine x_iald (j := j9) hx hb hK hw 311 0 (by omega) c_311 rfl rfl (by omega) (by decide) dX6_due_123 ?_
            refine lv_idiv hx hb dX6_due_124 hnz ?_
            refine lv_iconst (v := nI 1) hx hb dX6_due_125 (by decide) ?_
            refine lv_iadd hx hb dX6_due_126 ?_
            refine lv_imul hx hb dX6_due_127 ?_
            refine lv_iadd hx hb dX6_due_128 ?_
            refine lv_topi (fun x_23 ex_23 => ?_)
            refine x_iast (j := j9) hx hb hK dd hw 310 0 (by omega) c_310 rfl rfl (by omega) (by decide) dX6_due_129 (fun H locs hw => ?_)
            obtain ⟨f_24, ef_24⟩ : ∃ z, z = va_up f_22 310 (ai (ca 0) 20 (upd (g_20 7) j9 x_23)) := ⟨_, rfl⟩
            have hw : xw D vwCl N ad B s.heap f_24 H locs := by rw [ef_24]; exact hw
            have c_310 : f_24 310 = ai (ca 0) 20 (upd (g_20 7) j9 x_23) := va_up_of ef_24
            refine lv_goto (tgt := 36) hx hb dX6_due_130 (by decide) ?_
            have c_302 : f_24 302 = .inr (7, mO ad (n_19 7) (n_19 0) (n_19 1) (n_19 2) (g_20 13 0) ((n_19 3) + 1) (n_19 4) (n_19 5) zn_18) := by rw [ef_24, va_up_ne _ _ (by decide)]; exact c_302
            have c_303 : f_24 303 = ai (ca 1) 200 (g_20 0) := by rw [ef_24, va_up_ne _ _ (by decide), ef_22, va_up_ne _ _ (by decide), ef_21, va_up_ne _ _ (by decide)]; exact c_303
            have c_304 : f_24 304 = ai (ca 1) 4000 (g_20 1) := by rw [ef_24, va_up_ne _ _ (by decide), ef_22, va_up_ne _ _ (by decide), ef_21, va_up_ne _ _ (by decide)]; exact c_304
            have c_305 : f_24 305 = ai (ca 0) 20 (g_20 2) := by rw [ef_24, va_up_ne _ _ (by decide), ef_22, va_up_ne _ _ (by decide), ef_21, va_up_ne _ _ (by decide)]; exact c_305
            have c_306 : f_24 306 = ai (ca 0) 20 (g_20 3) := by rw [ef_24, va_up_ne _ _ (by decide), ef_22, va_up_ne _ _ (by decide), ef_21, va_up_ne _ _ (by decide)]; exact c_306
            have c_307 : f_24 307 = ai (ca 1) 720 (g_20 4) := by rw [ef_24, va_up_ne _ _ (by decide), ef_22, va_up_ne _ _ (by decide), ef_21, va_up_ne _ _ (by decide)]; exact c_307
            have c_308 : f_24 308 = ai (ca 0) 20 (g_20 5) := by rw [ef_24, va_up_ne _ _ (by decide), ef_22, va_up_ne _ _ (by decide), ef_21, va_up_ne _ _ (by decide)]; exact c_308
            have c_309 : f_24 309 = ai (ca 0) 20 (g_20 6) := by rw [ef_24, va_up_ne _ _ (by decide), ef_22, va_up_ne _ _ (by decide), ef_21, va_up_ne _ _ (by decide)]; exact c_309
            have c_311 : f_24 311 = ai (ca 0) 20 (g_20 8) := by rw [ef_24, va_up_ne _ _ (by decide)]; exact c_311
            have c_312 : f_24 312 = ai (ca 0) 20 (g_20 9) := by rw [ef_24, va_up_ne _ _ (by decide), ef_22, va_up_ne _ _ (by decide), ef_21, va_up_ne _ _ (by decide)]; exact c_312
            have c_313 : f_24 313 = ai (ca 2) 20 (upd (g_20 10) (n_7 3) (nI 1)) := by rw [ef_24, va_up_ne _ _ (by decide), ef_22, va_up_ne _ _ (by decide)]; exact c_313
            have c_314 : f_24 314 = ai (ca 0) 200 (g_20 11) := by rw [ef_24, va_up_ne _ _ (by decide), ef_22, va_up_ne _ _ (by decide), ef_21, va_up_ne _ _ (by decide)]; exact c_314
            have c_315 : f_24 315 = ai (ca 0) 200 (g_20 12) := by rw [ef_24, va_up_ne _ _ (by decide), ef_22, va_up_ne _ _ (by decide), ef_21, va_up_ne _ _ (by decide)]; exact c_315
            have c_316 : f_24 316 = ai (ca 0) 200 (g_20 14) := by rw [ef_24, va_up_ne _ _ (by decide), ef_22, va_up_ne _ _ (by decide), ef_21, va_up_ne _ _ (by decide)]; exact c_316
            have c_317 : f_24 317 = ai (ca 1) 6400 (g_20 15) := by rw [ef_24, va_up_ne _ _ (by decide), ef_22, va_up_ne _ _ (by decide), ef_21, va_up_ne _ _ (by decide)]; exact c_317
            have c_318 : f_24 318 = ai (ca 1) 32 (g_20 16) := by rw [ef_24, va_up_ne _ _ (by decide), ef_22, va_up_ne _ _ (by decide), ef_21, va_up_ne _ _ (by decide)]; exact c_318
            have c_319 : f_24 319 = ai (ca 1) 320 (z_17 0) := by rw [ef_24, va_up_ne _ _ (by decide), ef_22, va_up_ne _ _ (by decide), ef_21, va_up_ne _ _ (by decide)]; exact c_319
            have c_320 : f_24 320 = ai (ca 1) 36 (z_17 1) := by rw [ef_24, va_up_ne _ _ (by decide), ef_22, va_up_ne _ _ (by decide), ef_21, va_up_ne _ _ (by decide)]; exact c_320
            have c_321 : f_24 321 = ai (ca 0) 64 (z_17 2) := by rw [ef_24, va_up_ne _ _ (by decide), ef_22, va_up_ne _ _ (by decide), ef_21, va_up_ne _ _ (by decide)]; exact c_321
            have c_322 : f_24 322 = ai (ca 0) 8 (z_17 3) := by rw [ef_24, va_up_ne _ _ (by decide), ef_22, va_up_ne _ _ (by decide), ef_21, va_up_ne _ _ (by decide)]; exact c_322
            have c_323 : f_24 323 = ai (ca 0) 8 (z_17 4) := by rw [ef_24, va_up_ne _ _ (by decide), ef_22, va_up_ne _ _ (by decide), ef_21, va_up_ne _ _ (by decide)]; exact c_323
            have c_324 : f_24 324 = ai (ca 0) 8 shR := by rw [ef_24, va_up_ne _ _ (by decide), ef_22, va_up_ne _ _ (by decide), ef_21, va_up_ne _ _ (by decide)]; exact c_324
            have c_325 : f_24 325 = ai (ca 0) 64 shK := by rw [ef_24, va_up_ne _ _ (by decide), ef_22, va_up_ne _ _ (by decide), ef_21, va_up_ne _ _ (by decide)]; exact c_325
            have c_310 : f_24 310 = ai (ca 0) 20 (upd (g_20 7) j9 (((g_20 7) j9) + (((g_20 8) j9) * ((((nI j) - ((g_20 7) j9)) / ((g_20 8) j9)) + (nI 1))))) := by rw [c_310]; simp only [ex_23]
            have qn_0 : (va_up n_19 3 ((n_19 3) + 1)) 0 = n_19 0 := by rw [va_up_ne _ _ (by decide)]
            have qn_1 : (va_up n_19 3 ((n_19 3) + 1)) 1 = n_19 1 := by rw [va_up_ne _ _ (by decide)]
            have qn_2 : (va_up n_19 3 ((n_19 3) + 1)) 2 = n_19 2 := by rw [va_up_ne _ _ (by decide)]
            have qn_3 : (va_up n_19 3 ((n_19 3) + 1)) 3 = (n_19 3) + 1 := by rw [va_up_self]
            have qn_4 : (va_up n_19 3 ((n_19 3) + 1)) 4 = n_19 4 := by rw [va_up_ne _ _ (by decide)]
            have qn_5 : (va_up n_19 3 ((n_19 3) + 1)) 5 = n_19 5 := by rw [va_up_ne _ _ (by decide)]
            have qn_6 : (va_up n_19 3 ((n_19 3) + 1)) 6 = n_19 6 := by rw [va_up_ne _ _ (by decide)]
            have qn_7 : (va_up n_19 3 ((n_19 3) + 1)) 7 = n_19 7 := by rw [va_up_ne _ _ (by decide)]
            have qg_0 : (va_up (va_up g_20 7 (upd (g_20 7) j9 (((g_20 7) j9) + (((g_20 8) j9) * ((((nI j) - ((g_20 7) j9)) / ((g_20 8) j9)) + (nI 1)))))) 10 (upd (g_20 10) (n_7 3) (nI 1))) 0 = g_20 0 := by rw [va_up_ne _ _ (by decide), va_up_ne _ _ (by decide)]
            have qg_1 : (va_up (va_up g_20 7 (upd (g_20 7) j9 (((g_20 7) j9) + (((g_20 8) j9) * ((((nI j) - ((g_20 7) j9)) / ((g_20 8) j9)) + (nI 1)))))) 10 (upd (g_20 10) (n_7 3) (nI 1))) 1 = g_20 1 := by rw [va_up_ne _ _ (by decide), va_up_ne _ _ (by decide)]
            have qg_2 : (va_up (va_up g_20 7 (upd (g_20 7) j9 (((g_20 7) j9) + (((g_20 8) j9) * ((((nI j) - ((g_20 7) j9)) / ((g_20 8) j9)) + (nI 1)))))) 10 (upd (g_20 10) (n_7 3) (nI 1))) 2 = g_20 2 := by rw [va_up_ne _ _ (by decide), va_up_ne _ _ (by decide)]
            have qg_3 : (va_up (va_up g_20 7 (upd (g_20 7) j9 (((g_20 7) j9) + (((g_20 8) j9) * ((((nI j) - ((g_20 7) j9)) / ((g_20 8) j9)) + (nI 1)))))) 10 (upd (g_20 10) (n_7 3) (nI 1))) 3 = g_20 3 := by rw [va_up_ne _ _ (by decide), va_up_ne _ _ (by decide)]
            have qg_4 : (va_up (va_up g_20 7 (upd (g_20 7) j9 (((g_20 7) j9) + (((g_20 8) j9) * ((((nI j) - ((g_20 7) j9)) / ((g_20 8) j9)) + (nI 1)))))) 10 (upd (g_20 10) (n_7 3) (nI 1))) 4 = g_20 4 := by rw [va_up_ne _ _ (by decide), va_up_ne _ _ (by decide)]
            have qg_5 : (va_up (va_up g_20 7 (upd (g_20 7) j9 (((g_20 7) j9) + (((g_20 8) j9) * ((((nI j) - ((g_20 7) j9)) / ((g_20 8) j9)) + (nI 1)))))) 10 (upd (g_20 10) (n_7 3) (nI 1))) 5 = g_20 5 := by rw [va_up_ne _ _ (by decide), va_up_ne _ _ (by decide)]
            have qg_6 : (va_up (va_up g_20 7 (upd (g_20 7) j9 (((g_20 7) j9) + (((g_20 8) j9) * ((((nI j) - ((g_20 7) j9)) / ((g_20 8) j9)) + (nI 1)))))) 10 (upd (g_20 10) (n_7 3) (nI 1))) 6 = g_20 6 := by rw [va_up_ne _ _ (by decide), va_up_ne _ _ (by decide)]
            have qg_7 : (va_up (va_up g_20 7 (upd (g_20 7) j9 (((g_20 7) j9) + (((g_20 8) j9) * ((((nI j) - ((g_20 7) j9)) / ((g_20 8) j9)) + (nI 1)))))) 10 (upd (g_20 10) (n_7 3) (nI 1))) 7 = upd (g_20 7) j9 (((g_20 7) j9) + (((g_20 8) j9) * ((((nI j) - ((g_20 7) j9)) / ((g_20 8) j9)) + (nI 1)))) := by rw [va_up_ne _ _ (by decide), va_up_self]
            have qg_8 : (va_up (va_up g_20 7 (upd (g_20 7) j9 (((g_20 7) j9) + (((g_20 8) j9) * ((((nI j) - ((g_20 7) j9)) / ((g_20 8) j9)) + (nI 1)))))) 10 (upd (g_20 10) (n_7 3) (nI 1))) 8 = g_20 8 := by rw [va_up_ne _ _ (by decide), va_up_ne _ _ (by decide)]
            have qg_9 : (va_up (va_up g_20 7 (upd (g_20 7) j9 (((g_20 7) j9) + (((g_20 8) j9) * ((((nI j) - ((g_20 7) j9)) / ((g_20 8) j9)) + (nI 1)))))) 10 (upd (g_20 10) (n_7 3) (nI 1))) 9 = g_20 9 := by rw [va_up_ne _ _ (by decide), va_up_ne _ _ (by decide)]
            have qg_10 : (va_up (va_up g_20 7 (upd (g_20 7) j9 (((g_20 7) j9) + (((g_20 8) j9) * ((((nI j) - ((g_20 7) j9)) / ((g_20 8) j9)) + (nI 1)))))) 10 (upd (g_20 10) (n_7 3) (nI 1))) 10 = upd (g_20 10) (n_7 3) (nI 1) := by rw [va_up_self]
            have qg_11 : (va_up (va_up g_20 7 (upd (g_20 7) j9 (((g_20 7) j9) + (((g_20 8) j9) * ((((nI j) - ((g_20 7) j9)) / ((g_20 8) j9)) + (nI 1)))))) 10 (upd (g_20 10) (n_7 3) (nI 1))) 11 = g_20 11 := by rw [va_up_ne _ _ (by decide), va_up_ne _ _ (by decide)]
            have qg_12 : (va_up (va_up g_20 7 (upd (g_20 7) j9 (((g_20 7) j9) + (((g_20 8) j9) * ((((nI j) - ((g_20 7) j9)) / ((g_20 8) j9)) + (nI 1)))))) 10 (upd (g_20 10) (n_7 3) (nI 1))) 12 = g_20 12 := by rw [va_up_ne _ _ (by decide), va_up_ne _ _ (by decide)]
            have qg_13 : (va_up (va_up g_20 7 (upd (g_20 7) j9 (((g_20 7) j9) + (((g_20 8) j9) * ((((nI j) - ((g_20 7) j9)) / ((g_20 8) j9)) + (nI 1)))))) 10 (upd (g_20 10) (n_7 3) (nI 1))) 13 = g_20 13 := by rw [va_up_ne _ _ (by decide), va_up_ne _ _ (by decide)]
            have qg_14 : (va_up (va_up g_20 7 (upd (g_20 7) j9 (((g_20 7) j9) + (((g_20 8) j9) * ((((nI j) - ((g_20 7) j9)) / ((g_20 8) j9)) + (nI 1)))))) 10 (upd (g_20 10) (n_7 3) (nI 1))) 14 = g_20 14 := by rw [va_up_ne _ _ (by decide), va_up_ne _ _ (by decide)]
            have qg_15 : (va_up (va_up g_20 7 (upd (g_20 7) j9 (((g_20 7) j9) + (((g_20 8) j9) * ((((nI j) - ((g_20 7) j9)) / ((g_20 8) j9)) + (nI 1)))))) 10 (upd (g_20 10) (n_7 3) (nI 1))) 15 = g_20 15 := by rw [va_up_ne _ _ (by decide), va_up_ne _ _ (by decide)]
            have qg_16 : (va_up (va_up g_20 7 (upd (g_20 7) j9 (((g_20 7) j9) + (((g_20 8) j9) * ((((nI j) - ((g_20 7) j9)) / ((g_20 8) j9)) + (nI 1)))))) 10 (upd (g_20 10) (n_7 3) (nI 1))) 16 = g_20 16 := by rw [va_up_ne _ _ (by decide), va_up_ne _ _ (by decide)]
            have hRk : RepM ca ad (va_up n_19 3 ((n_19 3) + 1)) (va_up (va_up g_20 7 (upd (g_20 7) j9 (((g_20 7) j9) + (((g_20 8) j9) * ((((nI j) - ((g_20 7) j9)) / ((g_20 8) j9)) + (nI 1)))))) 10 (upd (g_20 10) (n_7 3) (nI 1))) z_17 zn_18 tb f_24 := ⟨(by rw [qn_7, qn_0, qn_1, qn_2, qn_3, qn_4, qn_5, qg_13]; exact c_302),
                  (by rw [qg_0]; exact c_303),
                  (by rw [qg_1]; exact c_304),
                  (by rw [qg_2]; exact c_305),
                  (by rw [qg_3]; exact c_306),
                  (by rw [qg_4]; exact c_307),
                  (by rw [qg_5]; exact c_308),
                  (by rw [qg_6]; exact c_309),
                  (by rw [qg_7]; exact c_310),
                  (by rw [qg_8]; exact c_311),
                  (by rw [qg_9]; exact c_312),
                  (by rw [qg_10]; exact c_313),
                  (by rw [qg_11]; exact c_314),
                  (by rw [qg_12]; exact c_315),
                  (by rw [qg_14]; exact c_316),
                  (by rw [qg_15]; exact c_317),
                  (by rw [qg_16]; exact c_318),
                  c_319,
                  c_320,
                  c_321,
                  c_322,
                  c_323,
                  c_324,
                  c_325, hzn⟩
            have hfr : ∀ y, (y < 302 ∨ 326 ≤ y) → f_24 y = f y := (fun y hy => by rw [ef_24, va_up_ne _ _ (by omega), ef_22, va_up_ne _ _ (by omega), ef_21, va_up_ne _ _ (by omega)]; exact hfr y hy)
            have hRk : RepM ca ad ((mdS n g (nI j) (k + 1)).1) ((mdS n g (nI j) (k + 1)).2) z_17 zn_18 tb f_24 := by rw [mdS_some (n := n) (g := g) (y := nI j) (k := k) (j := j9) (by rw [← eg_8, ← d2]; exact ej9), ← en_7, ← eg_8]; unfold mdStep; rw [← eN, ← eC, show mfitI (mdG1 n_7 g_8 j9) j9 = _ from q3]; exact hRk
            exact ih_36 (k + 1) _ _ _ _ _ _ (by omega) (by omega) (by rw [mdS_some (n := n) (g := g) (y := nI j) (k := k) (j := j9) (by rw [← eg_8, ← d2]; exact ej9), mdStep_3, hk3]) hRk hfr hw (lv_sub hl [1, 2] rfl)
          · refine lv_aload_n hx hb dX6_due_80 rfl (lv_at hl 1 rfl) ?_
            refine lv_iload_n hx hb dX6_due_81 rfl (lv_at hl 0 rfl) ?_
            refine lv_iload_n hx hb dX6_due_82 rfl (lv_at hl 2 rfl) ?_
            have c_303 : f_14 303 = ai (ca 1) 200 (g_8 0) := by rw [ef_14, va_up_ne _ _ (by decide)]; exact c_303
            have c_304 : f_14 304 = ai (ca 1) 4000 (g_8 1) := by rw [ef_14, va_up_ne _ _ (by decide)]; exact c_304
            have c_305 : f_14 305 = ai (ca 0) 20 (g_8 2) := by rw [ef_14, va_up_ne _ _ (by decide)]; exact c_305
            have c_306 : f_14 306 = ai (ca 0) 20 (g_8 3) := by rw [ef_14, va_up_ne _ _ (by decide)]; exact c_306
            have c_307 : f_14 307 = ai (ca 1) 720 (g_8 4) := by rw [ef_14, va_up_ne _ _ (by decide)]; exact c_307
            have c_308 : f_14 308 = ai (ca 0) 20 (g_8 5) := by rw [ef_14, va_up_ne _ _ (by decide)]; exact c_308
            have c_309 : f_14 309 = ai (ca 0) 20 (g_8 6) := by rw [ef_14, va_up_ne _ _ (by decide)]; exact c_309
            have c_310 : f_14 310 = ai (ca 0) 20 (g_8 7) := by rw [ef_14, va_up_ne _ _ (by decide)]; exact c_310
            have c_311 : f_14 311 = ai (ca 0) 20 (g_8 8) := by rw [ef_14, va_up_ne _ _ (by decide)]; exact c_311
            have c_313 : f_14 313 = ai (ca 2) 20 (g_8 10) := by rw [ef_14, va_up_ne _ _ (by decide)]; exact c_313
            have c_314 : f_14 314 = ai (ca 0) 200 (g_8 11) := by rw [ef_14, va_up_ne _ _ (by decide)]; exact c_314
            have c_315 : f_14 315 = ai (ca 0) 200 (g_8 12) := by rw [ef_14, va_up_ne _ _ (by decide)]; exact c_315
            have c_316 : f_14 316 = ai (ca 0) 200 (g_8 14) := by rw [ef_14, va_up_ne _ _ (by decide)]; exact c_316
            have c_317 : f_14 317 = ai (ca 1) 6400 (g_8 15) := by rw [ef_14, va_up_ne _ _ (by decide)]; exact c_317
            have c_318 : f_14 318 = ai (ca 1) 32 (g_8 16) := by rw [ef_14, va_up_ne _ _ (by decide)]; exact c_318
            have c_319 : f_14 319 = ai (ca 1) 320 (zc 0) := by rw [ef_14, va_up_ne _ _ (by decide)]; exact c_319
            have c_320 : f_14 320 = ai (ca 1) 36 (zc 1) := by rw [ef_14, va_up_ne _ _ (by decide)]; exact c_320
            have c_321 : f_14 321 = ai (ca 0) 64 (zc 2) := by rw [ef_14, va_up_ne _ _ (by decide)]; exact c_321
            have c_322 : f_14 322 = ai (ca 0) 8 (zc 3) := by rw [ef_14, va_up_ne _ _ (by decide)]; exact c_322
            have c_323 : f_14 323 = ai (ca 0) 8 (zc 4) := by rw [ef_14, va_up_ne _ _ (by decide)]; exact c_323
            have c_324 : f_14 324 = ai (ca 0) 8 shR := by rw [ef_14, va_up_ne _ _ (by decide)]; exact c_324
            have c_325 : f_14 325 = ai (ca 0) 64 shK := by rw [ef_14, va_up_ne _ _ (by decide)]; exact c_325
            have qg_0 : (va_up g_8 9 (upd (g_8 9) (n_7 3) (nI j9))) 0 = g_8 0 := by rw [va_up_ne _ _ (by decide)]
            have qg_1 : (va_up g_8 9 (upd (g_8 9) (n_7 3) (nI j9))) 1 = g_8 1 := by rw [va_up_ne _ _ (by decide)]
            have qg_2 : (va_up g_8 9 (upd (g_8 9) (n_7 3) (nI j9))) 2 = g_8 2 := by rw [va_up_ne _ _ (by decide)]
            have qg_3 : (va_up g_8 9 (upd (g_8 9) (n_7 3) (nI j9))) 3 = g_8 3 := by rw [va_up_ne _ _ (by decide)]
            have qg_4 : (va_up g_8 9 (upd (g_8 9) (n_7 3) (nI j9))) 4 = g_8 4 := by rw [va_up_ne _ _ (by decide)]
            have qg_5 : (va_up g_8 9 (upd (g_8 9) (n_7 3) (nI j9))) 5 = g_8 5 := by rw [va_up_ne _ _ (by decide)]
            have qg_6 : (va_up g_8 9 (upd (g_8 9) (n_7 3) (nI j9))) 6 = g_8 6 := by rw [va_up_ne _ _ (by decide)]
            have qg_7 : (va_up g_8 9 (upd (g_8 9) (n_7 3) (nI j9))) 7 = g_8 7 := by rw [va_up_ne _ _ (by decide)]
            have qg_8 : (va_up g_8 9 (upd (g_8 9) (n_7 3) (nI j9))) 8 = g_8 8 := by rw [va_up_ne _ _ (by decide)]
            have qg_9 : (va_up g_8 9 (upd (g_8 9) (n_7 3) (nI j9))) 9 = upd (g_8 9) (n_7 3) (nI j9) := by rw [va_up_self]
            have qg_10 : (va_up g_8 9 (upd (g_8 9) (n_7 3) (nI j9))) 10 = g_8 10 := by rw [va_up_ne _ _ (by decide)]
            have qg_11 : (va_up g_8 9 (upd (g_8 9) (n_7 3) (nI j9))) 11 = g_8 11 := by rw [va_up_ne _ _ (by decide)]
            have qg_12 : (va_up g_8 9 (upd (g_8 9) (n_7 3) (nI j9))) 12 = g_8 12 := by rw [va_up_ne _ _ (by decide)]
            have qg_13 : (va_up g_8 9 (upd (g_8 9) (n_7 3) (nI j9))) 13 = g_8 13 := by rw [va_up_ne _ _ (by decide)]
            have qg_14 : (va_up g_8 9 (upd (g_8 9) (n_7 3) (nI j9))) 14 = g_8 14 := by rw [va_up_ne _ _ (by decide)]
            have qg_15 : (va_up g_8 9 (upd (g_8 9) (n_7 3) (nI j9))) 15 = g_8 15 := by rw [va_up_ne _ _ (by decide)]
            have qg_16 : (va_up g_8 9 (upd (g_8 9) (n_7 3) (nI j9))) 16 = g_8 16 := by rw [va_up_ne _ _ (by decide)]
            have hRk : RepM ca ad n_7 (va_up g_8 9 (upd (g_8 9) (n_7 3) (nI j9))) zc znc tb f_14 := ⟨(by rw [qg_13]; exact c_302),
                  (by rw [qg_0]; exact c_303),
                  (by rw [qg_1]; exact c_304),
                  (by rw [qg_2]; exact c_305),
                  (by rw [qg_3]; exact c_306),
                  (by rw [qg_4]; exact c_307),
                  (by rw [qg_5]; exact c_308),
                  (by rw [qg_6]; exact c_309),
                  (by rw [qg_7]; exact c_310),
                  (by rw [qg_8]; exact c_311),
                  (by rw [qg_9]; exact c_312),
                  (by rw [qg_10]; exact c_313),
                  (by rw [qg_11]; exact c_314),
                  (by rw [qg_12]; exact c_315),
                  (by rw [qg_14]; exact c_316),
                  (by rw [qg_15]; exact c_317),
                  (by rw [qg_16]; exact c_318),
                  c_319,
                  c_320,
                  c_321,
                  c_322,
                  c_323,
                  c_324,
                  c_325, hzn⟩
            have hfr : ∀ y, (y < 302 ∨ 326 ≤ y) → f_14 y = f y := (fun y hy => by rw [ef_14, va_up_ne _ _ (by omega)]; exact hfr y hy)
            refine x_Vi (q := 302) (As := [.int (nI j9), .int (nI j)]) (rest := [.int (nI (n_7 3)), .ref (ad 313)]) ⟨hx, hb, hml, hown, hts⟩ (k_X6_check_fitF l D ca N ad B tR tK f_14 dd hN n_7 (va_up g_8 9 (upd (g_8 9) (n_7 3) (nI j9))) zc znc tb hRk j9 (nI j) (zN g j9) (by omega) (by show va_up g_8 9 _ 2 j9 = _; rw [va_up_ne _ _ (by decide), dz]; exact (hsz j9 (by omega)).2) (hsz j9 (by omega)).1 hr9 (by have ezN : zN (va_up g_8 9 (upd (g_8 9) (n_7 3) (nI j9))) j9 = zN g j9 := (by unfold zN; rw [va_up_ne _ _ (by decide), dz]); rw [← ezN]; exact hf9)) (cwV 2 hts gX6_due_X6_check rfl rfl rfl (by decide +kernel) ⟨Nat.le_of_ble_eq_true rfl, Nat.le_of_ble_eq_true rfl⟩) hK hE hB hw (by omega) c_302 rfl rfl rfl rfl hl.1 (Nat.le_of_ble_eq_true rfl) ⟨Nat.zero_le _, Nat.zero_le _⟩ dX6_due_83 (fun r_26 f_25 H locs hp hw => ?_)
            obtain ⟨er, hp⟩ := hp
            rw [← er]
            obtain ⟨z_27, zn_28, hR2, hfr2⟩ := hp
            obtain ⟨g_30, eg_30⟩ : ∃ x, x = va_up (va_up g_8 9 (upd (g_8 9) (n_7 3) (nI j9))) 5 (upd ((va_up g_8 9 (upd (g_8 9) (n_7 3) (nI j9))) 5) j9 (nI j)) := ⟨_, rfl⟩
            rw [← eg_30] at hR2
            have hfr : ∀ y, (y < 302 ∨ 326 ≤ y) → f_25 y = f y := fun y hy => (hfr2 y hy).trans (hfr y hy)
            obtain ⟨c_302, c_303, c_304, c_305, c_306, c_307, c_308, c_309, c_310, c_311, c_312, c_313, c_314, c_315, c_316, c_317, c_318, c_319, c_320, c_321, c_322, c_323, c_324, c_325, hzn⟩ := hR2
            obtain ⟨q1, q2, q3⟩ := mchkG_fitF (y := nI j) hf9 hr9
            have eC : g_30 = mchkG n_7 (mdG1 n_7 g_8 j9) j9 (nI j) := (show g_30 = mchkG n_7 (va_up g_8 9 (upd (g_8 9) (n_7 3) (nI j9))) j9 (nI j) by rw [q1]; exact eg_30)
            have eN : n_7 = mchkN n_7 := by rw [q2]
            have hnz : ¬ g_30 8 j9 = 0 := by rw [eC, mchkG_at (by decide) (by decide)]; show ¬ va_up g_8 9 _ 8 j9 = 0; rw [va_up_ne _ _ (by decide), d8]; exact hsp j9 (by omega) (d7 j9 hj8.1)
            have n3 : n_7 3 = k := by rw [eN, mchkN_at (by decide)]; exact d3
            refine x_zast (j := n_7 3) hx hb hK dd hw 313 2 (by omega) c_313 rfl rfl (by omega) (by decide) (by first | exact Or.inl rfl | exact Or.inr rfl) dX6_due_86 (fun H locs hw => ?_)
            obtain ⟨f_31, ef_31⟩ : ∃ z, z = va_up f_25 313 (ai (ca 2) 20 (upd (g_30 10) (n_7 3) (nI 1))) := ⟨_, rfl⟩
            have hw : xw D vwCl N ad B s.heap f_31 H locs := by rw [ef_31]; exact hw
            have c_313 : f_31 313 = ai (ca 2) 20 (upd (g_30 10) (n_7 3) (nI 1)) := va_up_of ef_31
            refine lv_aload_n hx hb dX6_due_87 rfl (lv_at hl 1 rfl) ?_
            refine lv_dup hx hb dX6_due_88 rfl ?_
            have c_302 : f_31 302 = .inr (7, mO ad (n_7 7) (n_7 0) (n_7 1) (n_7 2) (g_30 13 0) (n_7 3) (n_7 4) (n_7 5) zn_28) := by rw [ef_31, va_up_ne _ _ (by decide)]; exact c_302
            refine x_get (ci := 7) (C := RX6) (T := TX6) (n := 32) (ref := RX6) hx hb hts hin_7 hown hK hw 302 (by omega) c_302 rfl 14 (by decide) hf_238 (fun _ h => h) rfl dX6_due_89 ?_
            refine lv_iconst (v := nI 1) hx hb dX6_due_92 (by decide) ?_
            refine n_iadd hx hb dX6_due_93 ?_
            refine x_put (ci := 7) (C := RX6) (T := TX6) (n := 32) (ref := RX6) (fs' := mO ad (n_7 7) (n_7 0) (n_7 1) (n_7 2) (g_30 13 0) ((n_7 3) + 1) (n_7 4) (n_7 5) zn_28) hx hb hts hin_7 tyX6 tyX6_ok nmX6 hown hK dd hw 302 (by omega) c_302 rfl 14 (by decide) hf_238 (fun _ h => h) rfl rfl rfl (Nat.le_of_ble_eq_true rfl) rfl dX6_due_94 (fun H locs hw => ?_)
            obtain ⟨f_32, ef_32⟩ : ∃ z, z = va_up f_31 302 (.inr (7, mO ad (n_7 7) (n_7 0) (n_7 1) (n_7 2) (g_30 13 0) ((n_7 3) + 1) (n_7 4) (n_7 5) zn_28)) := ⟨_, rfl⟩
            have hw : xw D vwCl N ad B s.heap f_32 H locs := by rw [ef_32]; exact hw
            have c_302 : f_32 302 = .inr (7, mO ad (n_7 7) (n_7 0) (n_7 1) (n_7 2) (g_30 13 0) ((n_7 3) + 1) (n_7 4) (n_7 5) zn_28) := va_up_of ef_32
            refine lv_aload_n hx hb dX6_due_97 rfl (lv_at hl 1 rfl) ?_
            refine x_get (ci := 7) (C := RX6) (T := TX6) (n := 32) (ref := RX6) hx hb hts hin_7 hown hK hw 302 (by omega) c_302 rfl 11 (by decide) hf_32 (fun _ h => h) rfl dX6_due_98 ?_
            refine lv_iload_n hx hb dX6_due_101 rfl (lv_at hl 0 rfl) ?_
            refine lv_dup2_11 hx hb dX6_due_102 rfl rfl ?_
            have c_310 : f_32 310 = ai (ca 0) 20 (g_30 7) := by rw [ef_32, va_up_ne _ _ (by decide), ef_31, va_up_ne _ _ (by decide)]; exact c_310
            refine x_iald (j := j9) hx hb hK hw 310 0 (by omega) c_310 rfl rfl (by omega) (by decide) dX6_due_103 ?_
            refine lv_aload_n hx hb dX6_due_104 rfl (lv_at hl 1 rfl) ?_
            refine x_get (ci := 7) (C := RX6) (T := TX6) (n := 32) (ref := RX6) hx hb hts hin_7 hown hK hw 302 (by omega) c_302 rfl 12 (by decide) hf_35 (fun _ h => h) rfl dX6_due_105 ?_
            refine lv_iload_n hx hb dX6_due_108 rfl (lv_at hl 0 rfl) ?_
            have c_311 : f_32 311 = ai (ca 0) 20 (g_30 8) := by rw [ef_32, va_up_ne _ _ (by decide), ef_31, va_up_ne _ _ (by decide)]; exact c_311
            refine x_iald (j := j9) hx hb hK hw 311 0 (by omega) c_311 rfl rfl (by omega) (by decide) dX6_due_109 ?_
            refine lv_iload_n hx hb dX6_due_110 rfl (lv_at hl 2 rfl) ?_
            refine lv_aload_n hx hb dX6_due_111 rfl (lv_at hl 1 rfl) ?_
            refine x_get (ci := 7) (C := RX6) (T := TX6) (n := 32) (ref := RX6) hx hb hts hin_7 hown hK hw 302 (by omega) c_302 rfl 11 (by decide) hf_32 (fun _ h => h) rfl dX6_due_112 ?_
            refine lv_iload_n hx hb dX6_due_115 rfl (lv_at hl 0 rfl) ?_
            refine x_iald (j := j9) hx hb hK hw 310 0 (by omega) c_310 rfl rfl (by omega) (by decide) dX6_due_116 ?_
            refine lv_isub hx hb dX6_due_117 ?_
            refine lv_aload_n hx hb dX6_due_118 rfl (lv_at hl 1 rfl) ?_
            refine x_get (ci := 7) (C := RX6) (T := TX6) (n := 32) (ref := RX6) hx hb hts hin_7 hown hK hw 302 (by omega) c_302 rfl 12 (by decide) hf_35 (fun _ h => h) rfl dX6_due_119 ?_
            refine lv_iload_n hx hb dX6_due_122 rfl (lv_at hl 0 rfl) ?_
            refine x_iald (j := j9) hx hb hK hw 311 0 (by omega) c_311 rfl rfl (by omega) (by decide) dX6_due_123 ?_
            refine lv_idiv hx hb dX6_due_124 hnz ?_
            refine lv_iconst (v := nI 1) hx hb dX6_due_125 (by decide) ?_
            refine lv_iadd hx hb dX6_due_126 ?_
            refine lv_imul hx hb dX6_due_127 ?_
            refine lv_iadd hx hb dX6_due_128 ?_
            refine lv_topi (fun x_33 ex_33 => ?_)
            refine x_iast (j := j9) hx hb hK dd hw 310 0 (by omega) c_310 rfl rfl (by omega) (by decide) dX6_due_129 (fun H locs hw => ?_)
            obtain ⟨f_34, ef_34⟩ : ∃ z, z = va_up f_32 310 (ai (ca 0) 20 (upd (g_30 7) j9 x_33)) := ⟨_, rfl⟩
            have hw : xw D vwCl N ad B s.heap f_34 H locs := by rw [ef_34]; exact hw
            have c_310 : f_34 310 = ai (ca 0) 20 (upd (g_30 7) j9 x_33) := va_up_of ef_34
            refine lv_goto (tgt := 36) hx hb dX6_due_130 (by decide) ?_
            have c_302 : f_34 302 = .inr (7, mO ad (n_7 7) (n_7 0) (n_7 1) (n_7 2) (g_30 13 0) ((n_7 3) + 1) (n_7 4) (n_7 5) zn_28) := by rw [ef_34, va_up_ne _ _ (by decide)]; exact c_302
            have c_303 : f_34 303 = ai (ca 1) 200 (g_30 0) := by rw [ef_34, va_up_ne _ _ (by decide), ef_32, va_up_ne _ _ (by decide), ef_31, va_up_ne _ _ (by decide)]; exact c_303
            have c_304 : f_34 304 = ai (ca 1) 4000 (g_30 1) := by rw [ef_34, va_up_ne _ _ (by decide), ef_32, va_up_ne _ _ (by decide), ef_31, va_up_ne _ _ (by decide)]; exact c_304
            have c_305 : f_34 305 = ai (ca 0) 20 (g_30 2) := by rw [ef_34, va_up_ne _ _ (by decide), ef_32, va_up_ne _ _ (by decide), ef_31, va_up_ne _ _ (by decide)]; exact c_305
            have c_306 : f_34 306 = ai (ca 0) 20 (g_30 3) := by rw [ef_34, va_up_ne _ _ (by decide), ef_32, va_up_ne _ _ (by decide), ef_31, va_up_ne _ _ (by decide)]; exact c_306
            have c_307 : f_34 307 = ai (ca 1) 720 (g_30 4) := by rw [ef_34, va_up_ne _ _ (by decide), ef_32, va_up_ne _ _ (by decide), ef_31, va_up_ne _ _ (by decide)]; exact c_307
            have c_308 : f_34 308 = ai (ca 0) 20 (g_30 5) := by rw [ef_34, va_up_ne _ _ (by decide), ef_32, va_up_ne _ _ (by decide), ef_31, va_up_ne _ _ (by decide)]; exact c_308
            have c_309 : f_34 309 = ai (ca 0) 20 (g_30 6) := by rw [ef_34, va_up_ne _ _ (by decide), ef_32, va_up_ne _ _ (by decide), ef_31, va_up_ne _ _ (by decide)]; exact c_309
            have c_311 : f_34 311 = ai (ca 0) 20 (g_30 8) := by rw [ef_34, va_up_ne _ _ (by decide)]; exact c_311
            have c_312 : f_34 312 = ai (ca 0) 20 (g_30 9) := by rw [ef_34, va_up_ne _ _ (by decide), ef_32, va_up_ne _ _ (by decide), ef_31, va_up_ne _ _ (by decide)]; exact c_312
            have c_313 : f_34 313 = ai (ca 2) 20 (upd (g_30 10) (n_7 3) (nI 1)) := by rw [ef_34, va_up_ne _ _ (by decide), ef_32, va_up_ne _ _ (by decide)]; exact c_313
            have c_314 : f_34 314 = ai (ca 0) 200 (g_30 11) := by rw [ef_34, va_up_ne _ _ (by decide), ef_32, va_up_ne _ _ (by decide), ef_31, va_up_ne _ _ (by decide)]; exact c_314
            have c_315 : f_34 315 = ai (ca 0) 200 (g_30 12) := by rw [ef_34, va_up_ne _ _ (by decide), ef_32, va_up_ne _ _ (by decide), ef_31, va_up_ne _ _ (by decide)]; exact c_315
            have c_316 : f_34 316 = ai (ca 0) 200 (g_30 14) := by rw [ef_34, va_up_ne _ _ (by decide), ef_32, va_up_ne _ _ (by decide), ef_31, va_up_ne _ _ (by decide)]; exact c_316
            have c_317 : f_34 317 = ai (ca 1) 6400 (g_30 15) := by rw [ef_34, va_up_ne _ _ (by decide), ef_32, va_up_ne _ _ (by decide), ef_31, va_up_ne _ _ (by decide)]; exact c_317
            have c_318 : f_34 318 = ai (ca 1) 32 (g_30 16) := by rw [ef_34, va_up_ne _ _ (by decide), ef_32, va_up_ne _ _ (by decide), ef_31, va_up_ne _ _ (by decide)]; exact c_318
            have c_319 : f_34 319 = ai (ca 1) 320 (z_27 0) := by rw [ef_34, va_up_ne _ _ (by decide), ef_32, va_up_ne _ _ (by decide), ef_31, va_up_ne _ _ (by decide)]; exact c_319
            have c_320 : f_34 320 = ai (ca 1) 36 (z_27 1) := by rw [ef_34, va_up_ne _ _ (by decide), ef_32, va_up_ne _ _ (by decide), ef_31, va_up_ne _ _ (by decide)]; exact c_320
            have c_321 : f_34 321 = ai (ca 0) 64 (z_27 2) := by rw [ef_34, va_up_ne _ _ (by decide), ef_32, va_up_ne _ _ (by decide), ef_31, va_up_ne _ _ (by decide)]; exact c_321
            have c_322 : f_34 322 = ai (ca 0) 8 (z_27 3) := by rw [ef_34, va_up_ne _ _ (by decide), ef_32, va_up_ne _ _ (by decide), ef_31, va_up_ne _ _ (by decide)]; exact c_322
            have c_323 : f_34 323 = ai (ca 0) 8 (z_27 4) := by rw [ef_34, va_up_ne _ _ (by decide), ef_32, va_up_ne _ _ (by decide), ef_31, va_up_ne _ _ (by decide)]; exact c_323
            have c_324 : f_34 324 = ai (ca 0) 8 shR := by rw [ef_34, va_up_ne _ _ (by decide), ef_32, va_up_ne _ _ (by decide), ef_31, va_up_ne _ _ (by decide)]; exact c_324
            have c_325 : f_34 325 = ai (ca 0) 64 shK := by rw [ef_34, va_up_ne _ _ (by decide), ef_32, va_up_ne _ _ (by decide), ef_31, va_up_ne _ _ (by decide)]; exact c_325
            have c_310 : f_34 310 = ai (ca 0) 20 (upd (g_30 7) j9 (((g_30 7) j9) + (((g_30 8) j9) * ((((nI j) - ((g_30 7) j9)) / ((g_30 8) j9)) + (nI 1))))) := by rw [c_310]; simp only [ex_33]
            have qn_0 : (va_up n_7 3 ((n_7 3) + 1)) 0 = n_7 0 := by rw [va_up_ne _ _ (by decide)]
            have qn_1 : (va_up n_7 3 ((n_7 3) + 1)) 1 = n_7 1 := by rw [va_up_ne _ _ (by decide)]
            have qn_2 : (va_up n_7 3 ((n_7 3) + 1)) 2 = n_7 2 := by rw [va_up_ne _ _ (by decide)]
            have qn_3 : (va_up n_7 3 ((n_7 3) + 1)) 3 = (n_7 3) + 1 := by rw [va_up_self]
            have qn_4 : (va_up n_7 3 ((n_7 3) + 1)) 4 = n_7 4 := by rw [va_up_ne _ _ (by decide)]
            have qn_5 : (va_up n_7 3 ((n_7 3) + 1)) 5 = n_7 5 := by rw [va_up_ne _ _ (by decide)]
            have qn_6 : (va_up n_7 3 ((n_7 3) + 1)) 6 = n_7 6 := by rw [va_up_ne _ _ (by decide)]
            have qn_7 : (va_up n_7 3 ((n_7 3) + 1)) 7 = n_7 7 := by rw [va_up_ne _ _ (by decide)]
            have qg_0 : (va_up (va_up g_30 7 (upd (g_30 7) j9 (((g_30 7) j9) + (((g_30 8) j9) * ((((nI j) - ((g_30 7) j9)) / ((g_30 8) j9)) + (nI 1)))))) 10 (upd (g_30 10) (n_7 3) (nI 1))) 0 = g_30 0 := by rw [va_up_ne _ _ (by decide), va_up_ne _ _ (by decide)]
            have qg_1 : (va_up (va_up g_30 7 (upd (g_30 7) j9 (((g_30 7) j9) + (((g_30 8) j9) * ((((nI j) - ((g_30 7) j9)) / ((g_30 8) j9)) + (nI 1)))))) 10 (upd (g_30 10) (n_7 3) (nI 1))) 1 = g_30 1 := by rw [va_up_ne _ _ (by decide), va_up_ne _ _ (by decide)]
            have qg_2 : (va_up (va_up g_30 7 (upd (g_30 7) j9 (((g_30 7) j9) + (((g_30 8) j9) * ((((nI j) - ((g_30 7) j9)) / ((g_30 8) j9)) + (nI 1)))))) 10 (upd (g_30 10) (n_7 3) (nI 1))) 2 = g_30 2 := by rw [va_up_ne _ _ (by decide), va_up_ne _ _ (by decide)]
            have qg_3 : (va_up (va_up g_30 7 (upd (g_30 7) j9 (((g_30 7) j9) + (((g_30 8) j9) * ((((nI j) - ((g_30 7) j9)) / ((g_30 8) j9)) + (nI 1)))))) 10 (upd (g_30 10) (n_7 3) (nI 1))) 3 = g_30 3 := by rw [va_up_ne _ _ (by decide), va_up_ne _ _ (by decide)]
            have qg_4 : (va_up (va_up g_30 7 (upd (g_30 7) j9 (((g_30 7) j9) + (((g_30 8) j9) * ((((nI j) - ((g_30 7) j9)) / ((g_30 8) j9)) + (nI 1)))))) 10 (upd (g_30 10) (n_7 3) (nI 1))) 4 = g_30 4 := by rw [va_up_ne _ _ (by decide), va_up_ne _ _ (by decide)]
            have qg_5 : (va_up (va_up g_30 7 (upd (g_30 7) j9 (((g_30 7) j9) + (((g_30 8) j9) * ((((nI j) - ((g_30 7) j9)) / ((g_30 8) j9)) + (nI 1)))))) 10 (upd (g_30 10) (n_7 3) (nI 1))) 5 = g_30 5 := by rw [va_up_ne _ _ (by decide), va_up_ne _ _ (by decide)]
            have qg_6 : (va_up (va_up g_30 7 (upd (g_30 7) j9 (((g_30 7) j9) + (((g_30 8) j9) * ((((nI j) - ((g_30 7) j9)) / ((g_30 8) j9)) + (nI 1)))))) 10 (upd (g_30 10) (n_7 3) (nI 1))) 6 = g_30 6 := by rw [va_up_ne _ _ (by decide), va_up_ne _ _ (by decide)]
            have qg_7 : (va_up (va_up g_30 7 (upd (g_30 7) j9 (((g_30 7) j9) + (((g_30 8) j9) * ((((nI j) - ((g_30 7) j9)) / ((g_30 8) j9)) + (nI 1)))))) 10 (upd (g_30 10) (n_7 3) (nI 1))) 7 = upd (g_30 7) j9 (((g_30 7) j9) + (((g_30 8) j9) * ((((nI j) - ((g_30 7) j9)) / ((g_30 8) j9)) + (nI 1)))) := by rw [va_up_ne _ _ (by decide), va_up_self]
            have qg_8 : (va_up (va_up g_30 7 (upd (g_30 7) j9 (((g_30 7) j9) + (((g_30 8) j9) * ((((nI j) - ((g_30 7) j9)) / ((g_30 8) j9)) + (nI 1)))))) 10 (upd (g_30 10) (n_7 3) (nI 1))) 8 = g_30 8 := by rw [va_up_ne _ _ (by decide), va_up_ne _ _ (by decide)]
            have qg_9 : (va_up (va_up g_30 7 (upd (g_30 7) j9 (((g_30 7) j9) + (((g_30 8) j9) * ((((nI j) - ((g_30 7) j9)) / ((g_30 8) j9)) + (nI 1)))))) 10 (upd (g_30 10) (n_7 3) (nI 1))) 9 = g_30 9 := by rw [va_up_ne _ _ (by decide), va_up_ne _ _ (by decide)]
            have qg_10 : (va_up (va_up g_30 7 (upd (g_30 7) j9 (((g_30 7) j9) + (((g_30 8) j9) * ((((nI j) - ((g_30 7) j9)) / ((g_30 8) j9)) + (nI 1)))))) 10 (upd (g_30 10) (n_7 3) (nI 1))) 10 = upd (g_30 10) (n_7 3) (nI 1) := by rw [va_up_self]
            have qg_11 : (va_up (va_up g_30 7 (upd (g_30 7) j9 (((g_30 7) j9) + (((g_30 8) j9) * ((((nI j) - ((g_30 7) j9)) / ((g_30 8) j9)) + (nI 1)))))) 10 (upd (g_30 10) (n_7 3) (nI 1))) 11 = g_30 11 := by rw [va_up_ne _ _ (by decide), va_up_ne _ _ (by decide)]
            have qg_12 : (va_up (va_up g_30 7 (upd (g_30 7) j9 (((g_30 7) j9) + (((g_30 8) j9) * ((((nI j) - ((g_30 7) j9)) / ((g_30 8) j9)) + (nI 1)))))) 10 (upd (g_30 10) (n_7 3) (nI 1))) 12 = g_30 12 := by rw [va_up_ne _ _ (by decide), va_up_ne _ _ (by decide)]
            have qg_13 : (va_up (va_up g_30 7 (upd (g_30 7) j9 (((g_30 7) j9) + (((g_30 8) j9) * ((((nI j) - ((g_30 7) j9)) / ((g_30 8) j9)) + (nI 1)))))) 10 (upd (g_30 10) (n_7 3) (nI 1))) 13 = g_30 13 := by rw [va_up_ne _ _ (by decide), va_up_ne _ _ (by decide)]
            have qg_14 : (va_up (va_up g_30 7 (upd (g_30 7) j9 (((g_30 7) j9) + (((g_30 8) j9) * ((((nI j) - ((g_30 7) j9)) / ((g_30 8) j9)) + (nI 1)))))) 10 (upd (g_30 10) (n_7 3) (nI 1))) 14 = g_30 14 := by rw [va_up_ne _ _ (by decide), va_up_ne _ _ (by decide)]
            have qg_15 : (va_up (va_up g_30 7 (upd (g_30 7) j9 (((g_30 7) j9) + (((g_30 8) j9) * ((((nI j) - ((g_30 7) j9)) / ((g_30 8) j9)) + (nI 1)))))) 10 (upd (g_30 10) (n_7 3) (nI 1))) 15 = g_30 15 := by rw [va_up_ne _ _ (by decide), va_up_ne _ _ (by decide)]
            have qg_16 : (va_up (va_up g_30 7 (upd (g_30 7) j9 (((g_30 7) j9) + (((g_30 8) j9) * ((((nI j) - ((g_30 7) j9)) / ((g_30 8) j9)) + (nI 1)))))) 10 (upd (g_30 10) (n_7 3) (nI 1))) 16 = g_30 16 := by rw [va_up_ne _ _ (by decide), va_up_ne _ _ (by decide)]
            have hRk : RepM ca ad (va_up n_7 3 ((n_7 3) + 1)) (va_up (va_up g_30 7 (upd (g_30 7) j9 (((g_30 7) j9) + (((g_30 8) j9) * ((((nI j) - ((g_30 7) j9)) / ((g_30 8) j9)) + (nI 1)))))) 10 (upd (g_30 10) (n_7 3) (nI 1))) z_27 zn_28 tb f_34 := ⟨(by rw [qn_7, qn_0, qn_1, qn_2, qn_3, qn_4, qn_5, qg_13]; exact c_302),
                  (by rw [qg_0]; exact c_303),
                  (by rw [qg_1]; exact c_304),
                  (by rw [qg_2]; exact c_305),
                  (by rw [qg_3]; exact c_306),
                  (by rw [qg_4]; exact c_307),
                  (by rw [qg_5]; exact c_308),
                  (by rw [qg_6]; exact c_309),
                  (by rw [qg_7]; exact c_310),
                  (by rw [qg_8]; exact c_311),
                  (by rw [qg_9]; exact c_312),
                  (by rw [qg_10]; exact c_313),
                  (by rw [qg_11]; exact c_314),
                  (by rw [qg_12]; exact c_315),
                  (by rw [qg_14]; exact c_316),
                  (by rw [qg_15]; exact c_317),
                  (by rw [qg_16]; exact c_318),
                  c_319,
                  c_320,
                  c_321,
                  c_322,
                  c_323,
                  c_324,
                  c_325, hzn⟩
            have hfr : ∀ y, (y < 302 ∨ 326 ≤ y) → f_34 y = f y := (fun y hy => by rw [ef_34, va_up_ne _ _ (by omega), ef_32, va_up_ne _ _ (by omega), ef_31, va_up_ne _ _ (by omega)]; exact hfr y hy)
            have hRk : RepM ca ad ((mdS n g (nI j) (k + 1)).1) ((mdS n g (nI j) (k + 1)).2) z_27 zn_28 tb f_34 := by rw [mdS_some (n := n) (g := g) (y := nI j) (k := k) (j := j9) (by rw [← eg_8, ← d2]; exact ej9), ← en_7, ← eg_8]; unfold mdStep; rw [← eN, ← eC, show mfitI (mdG1 n_7 g_8 j9) j9 = _ from q3]; exact hRk
            exact ih_36 (k + 1) _ _ _ _ _ _ (by omega) (by omega) (by rw [mdS_some (n := n) (g := g) (y := nI j) (k := k) (j := j9) (by rw [← eg_8, ← d2]; exact ej9), mdStep_3, hk3]) hRk hfr hw (lv_sub hl [1, 2] rfl)
          · refine lv_aload_n hx hb dX6_due_80 rfl (lv_at hl 1 rfl) ?_
            refine lv_iload_n hx hb dX6_due_81 rfl (lv_at hl 0 rfl) ?_
            refine lv_iload_n hx hb dX6_due_82 rfl (lv_at hl 2 rfl) ?_
            have c_303 : f_14 303 = ai (ca 1) 200 (g_8 0) := by rw [ef_14, va_up_ne _ _ (by decide)]; exact c_303
            have c_304 : f_14 304 = ai (ca 1) 4000 (g_8 1) := by rw [ef_14, va_up_ne _ _ (by decide)]; exact c_304
            have c_305 : f_14 305 = ai (ca 0) 20 (g_8 2) := by rw [ef_14, va_up_ne _ _ (by decide)]; exact c_305
            have c_306 : f_14 306 = ai (ca 0) 20 (g_8 3) := by rw [ef_14, va_up_ne _ _ (by decide)]; exact c_306
            have c_307 : f_14 307 = ai (ca 1) 720 (g_8 4) := by rw [ef_14, va_up_ne _ _ (by decide)]; exact c_307
            have c_308 : f_14 308 = ai (ca 0) 20 (g_8 5) := by rw [ef_14, va_up_ne _ _ (by decide)]; exact c_308
            have c_309 : f_14 309 = ai (ca 0) 20 (g_8 6) := by rw [ef_14, va_up_ne _ _ (by decide)]; exact c_309
            have c_310 : f_14 310 = ai (ca 0) 20 (g_8 7) := by rw [ef_14, va_up_ne _ _ (by decide)]; exact c_310
            have c_311 : f_14 311 = ai (ca 0) 20 (g_8 8) := by rw [ef_14, va_up_ne _ _ (by decide)]; exact c_311
            have c_313 : f_14 313 = ai (ca 2) 20 (g_8 10) := by rw [ef_14, va_up_ne _ _ (by decide)]; exact c_313
            have c_314 : f_14 314 = ai (ca 0) 200 (g_8 11) := by rw [ef_14, va_up_ne _ _ (by decide)]; exact c_314
            have c_315 : f_14 315 = ai (ca 0) 200 (g_8 12) := by rw [ef_14, va_up_ne _ _ (by decide)]; exact c_315
            have c_316 : f_14 316 = ai (ca 0) 200 (g_8 14) := by rw [ef_14, va_up_ne _ _ (by decide)]; exact c_316
            have c_317 : f_14 317 = ai (ca 1) 6400 (g_8 15) := by rw [ef_14, va_up_ne _ _ (by decide)]; exact c_317
            have c_318 : f_14 318 = ai (ca 1) 32 (g_8 16) := by rw [ef_14, va_up_ne _ _ (by decide)]; exact c_318
            have c_319 : f_14 319 = ai (ca 1) 320 (zc 0) := by rw [ef_14, va_up_ne _ _ (by decide)]; exact c_319
            have c_320 : f_14 320 = ai (ca 1) 36 (zc 1) := by rw [ef_14, va_up_ne _ _ (by decide)]; exact c_320
            have c_321 : f_14 321 = ai (ca 0) 64 (zc 2) := by rw [ef_14, va_up_ne _ _ (by decide)]; exact c_321
            have c_322 : f_14 322 = ai (ca 0) 8 (zc 3) := by rw [ef_14, va_up_ne _ _ (by decide)]; exact c_322
            have c_323 : f_14 323 = ai (ca 0) 8 (zc 4) := by rw [ef_14, va_up_ne _ _ (by decide)]; exact c_323
            have c_324 : f_14 324 = ai (ca 0) 8 shR := by rw [ef_14, va_up_ne _ _ (by decide)]; exact c_324
            have c_325 : f_14 325 = ai (ca 0) 64 shK := by rw [ef_14, va_up_ne _ _ (by decide)]; exact c_325
            have qg_0 : (va_up g_8 9 (upd (g_8 9) (n_7 3) (nI j9))) 0 = g_8 0 := by rw [va_up_ne _ _ (by decide)]
            have qg_1 : (va_up g_8 9 (upd (g_8 9) (n_7 3) (nI j9))) 1 = g_8 1 := by rw [va_up_ne _ _ (by decide)]
            have qg_2 : (va_up g_8 9 (upd (g_8 9) (n_7 3) (nI j9))) 2 = g_8 2 := by rw [va_up_ne _ _ (by decide)]
            have qg_3 : (va_up g_8 9 (upd (g_8 9) (n_7 3) (nI j9))) 3 = g_8 3 := by rw [va_up_ne _ _ (by decide)]
            have qg_4 : (va_up g_8 9 (upd (g_8 9) (n_7 3) (nI j9))) 4 = g_8 4 := by rw [va_up_ne _ _ (by decide)]
            have qg_5 : (va_up g_8 9 (upd (g_8 9) (n_7 3) (nI j9))) 5 = g_8 5 := by rw [va_up_ne _ _ (by decide)]
            have qg_6 : (va_up g_8 9 (upd (g_8 9) (n_7 3) (nI j9))) 6 = g_8 6 := by rw [va_up_ne _ _ (by decide)]
            have qg_7 : (va_up g_8 9 (upd (g_8 9) (n_7 3) (nI j9))) 7 = g_8 7 := by rw [va_up_ne _ _ (by decide)]
            have qg_8 : (va_up g_8 9 (upd (g_8 9) (n_7 3) (nI j9))) 8 = g_8 8 := by rw [va_up_ne _ _ (by decide)]
            have qg_9 : (va_up g_8 9 (upd (g_8 9) (n_7 3) (nI j9))) 9 = upd (g_8 9) (n_7 3) (nI j9) := by rw [va_up_self]
            have qg_10 : (va_up g_8 9 (upd (g_8 9) (n_7 3) (nI j9))) 10 = g_8 10 := by rw [va_up_ne _ _ (by decide)]
            have qg_11 : (va_up g_8 9 (upd (g_8 9) (n_7 3) (nI j9))) 11 = g_8 11 := by rw [va_up_ne _ _ (by decide)]
            have qg_12 : (va_up g_8 9 (upd (g_8 9) (n_7 3) (nI j9))) 12 = g_8 12 := by rw [va_up_ne _ _ (by decide)]
            have qg_13 : (va_up g_8 9 (upd (g_8 9) (n_7 3) (nI j9))) 13 = g_8 13 := by rw [va_up_ne _ _ (by decide)]
            have qg_14 : (va_up g_8 9 (upd (g_8 9) (n_7 3) (nI j9))) 14 = g_8 14 := by rw [va_up_ne _ _ (by decide)]
            have qg_15 : (va_up g_8 9 (upd (g_8 9) (n_7 3) (nI j9))) 15 = g_8 15 := by rw [va_up_ne _ _ (by decide)]
            have qg_16 : (va_up g_8 9 (upd (g_8 9) (n_7 3) (nI j9))) 16 = g_8 16 := by rw [va_up_ne _ _ (by decide)]
            have hRk : RepM ca ad n_7 (va_up g_8 9 (upd (g_8 9) (n_7 3) (nI j9))) zc znc tb f_14 := ⟨(by rw [qg_13]; exact c_302),
                  (by rw [qg_0]; exact c_303),
                  (by rw [qg_1]; exact c_304),
                  (by rw [qg_2]; exact c_305),
                  (by rw [qg_3]; exact c_306),
                  (by rw [qg_4]; exact c_307),
                  (by rw [qg_5]; exact c_308),
                  (by rw [qg_6]; exact c_309),
                  (by rw [qg_7]; exact c_310),
                  (by rw [qg_8]; exact c_311),
                  (by rw [qg_9]; exact c_312),
                  (by rw [qg_10]; exact c_313),
                  (by rw [qg_11]; exact c_314),
                  (by rw [qg_12]; exact c_315),
                  (by rw [qg_14]; exact c_316),
                  (by rw [qg_15]; exact c_317),
                  (by rw [qg_16]; exact c_318),
                  c_319,
                  c_320,
                  c_321,
                  c_322,
                  c_323,
                  c_324,
                  c_325, hzn⟩
            have hfr : ∀ y, (y < 302 ∨ 326 ≤ y) → f_14 y = f y := (fun y hy => by rw [ef_14, va_up_ne _ _ (by omega)]; exact hfr y hy)
            refine x_Vi (q := 302) (As := [.int (nI j9), .int (nI j)]) (rest := [.int (nI (n_7 3)), .ref (ad 313)]) ⟨hx, hb, hml, hown, hts⟩ (k_X6_check_no l D ca N ad B tR tK f_14 dd hN n_7 (va_up g_8 9 (upd (g_8 9) (n_7 3) (nI j9))) zc znc tb hRk j9 (nI j) (zN g j9) (by omega) (by show va_up g_8 9 _ 2 j9 = _; rw [va_up_ne _ _ (by decide), dz]; exact (hsz j9 (by omega)).2) (hsz j9 (by omega)).1 hr9 (by have ezN : zN (va_up g_8 9 (upd (g_8 9) (n_7 3) (nI j9))) j9 = zN g j9 := (by unfold zN; rw [va_up_ne _ _ (by decide), dz]); rw [← ezN]; exact hf9)) (cwV 2 hts gX6_due_X6_check rfl rfl rfl (by decide +kernel) ⟨Nat.le_of_ble_eq_true rfl, Nat.le_of_ble_eq_true rfl⟩) hK hE hB hw (by omega) c_302 rfl rfl rfl rfl hl.1 (Nat.le_of_ble_eq_true rfl) ⟨Nat.zero_le _, Nat.zero_le _⟩ dX6_due_83 (fun r_36 f_35 H locs hp hw => ?_)
            obtain ⟨er, hp⟩ := hp
            rw [← er]
            obtain ⟨z_37, zn_38, hR2, hfr2⟩ := hp
            obtain ⟨n_39, en_39⟩ : ∃ x, x = va_up n_7 4 ((n_7 4) + 1) := ⟨_, rfl⟩
            obtain ⟨g_40, eg_40⟩ : ∃ x, x = va_up (va_up (va_up (va_up (va_up g_8 9 (upd (g_8 9) (n_7 3) (nI j9))) 11 (upd ((va_up g_8 9 (upd (g_8 9) (n_7 3) (nI j9))) 11) (n_7 4) (nI 2))) 12 (upd ((va_up g_8 9 (upd (g_8 9) (n_7 3) (nI j9))) 12) (n_7 4) (nI j9))) 14 (upd ((va_up g_8 9 (upd (g_8 9) (n_7 3) (nI j9))) 14) (n_7 4) (nI j))) 15 (rowB ((va_up g_8 9 (upd (g_8 9) (n_7 3) (nI j9))) 15) (rowS ((va_up g_8 9 (upd (g_8 9) (n_7 3) (nI j9))) 15) (n_7 4) (nI 2) (nI j9) (nI j)) (n_7 4)) := ⟨_, rfl⟩
            rw [← en_39, ← eg_40] at hR2
            have hfr : ∀ y, (y < 302 ∨ 326 ≤ y) → f_35 y = f y := fun y hy => (hfr2 y hy).trans (hfr y hy)
            obtain ⟨c_302, c_303, c_304, c_305, c_306, c_307, c_308, c_309, c_310, c_311, c_312, c_313, c_314, c_315, c_316, c_317, c_318, c_319, c_320, c_321, c_322, c_323, c_324, c_325, hzn⟩ := hR2
            obtain ⟨q1, q2, q3⟩ := mchkG_no (y := nI j) hf9 hr9
            have eC : g_40 = mchkG n_7 (mdG1 n_7 g_8 j9) j9 (nI j) := (show g_40 = mchkG n_7 (va_up g_8 9 (upd (g_8 9) (n_7 3) (nI j9))) j9 (nI j) by rw [q1]; exact eg_40)
            have eN : n_39 = mchkN n_7 := by rw [q2]; exact en_39
            have hnz : ¬ g_40 8 j9 = 0 := by rw [eC, mchkG_at (by decide) (by decide)]; show ¬ va_up g_8 9 _ 8 j9 = 0; rw [va_up_ne _ _ (by decide), d8]; exact hsp j9 (by omega) (d7 j9 hj8.1)
            have n3 : n_39 3 = k := by rw [eN, mchkN_at (by decide)]; exact d3
            refine x_zast (j := n_7 3) hx hb hK dd hw 313 2 (by omega) c_313 rfl rfl (by omega) (by decide) (by first | exact Or.inl rfl | exact Or.inr rfl) dX6_due_86 (fun H locs hw => ?_)
            obtain ⟨f_41, ef_41⟩ : ∃ z, z = va_up f_35 313 (ai (ca 2) 20 (upd (g_40 10) (n_7 3) (nI 0))) := ⟨_, rfl⟩
            have hw : xw D vwCl N ad B s.heap f_41 H locs := by rw [ef_41]; exact hw
            have c_313 : f_41 313 = ai (ca 2) 20 (upd (g_40 10) (n_7 3) (nI 0)) := va_up_of ef_41
            refine lv_aload_n hx hb dX6_due_87 rfl (lv_at hl 1 rfl) ?_
            refine lv_dup hx hb dX6_due_88 rfl ?_
            have c_302 : f_41 302 = .inr (7, mO ad (n_39 7) (n_39 0) (n_39 1) (n_39 2) (g_40 13 0) (n_39 3) (n_39 4) (n_39 5) zn_38) := by rw [ef_41, va_up_ne _ _ (by decide)]; exact c_302
            refine x_get (ci := 7) (C := RX6) (T := TX6) (n := 32) (ref := RX6) hx hb hts hin_7 hown hK hw 302 (by omega) c_302 rfl 14 (by decide) hf_238 (fun _ h => h) rfl dX6_due_89 ?_
            refine lv_iconst (v := nI 1) hx hb dX6_due_92 (by decide) ?_
            refine n_iadd hx hb dX6_due_93 ?_
            refine x_put (ci := 7) (C := RX6) (T := TX6) (n := 32) (ref := RX6) (fs' := mO ad (n_39 7) (n_39 0) (n_39 1) (n_39 2) (g_40 13 0) ((n_39 3) + 1) (n_39 4) (n_39 5) zn_38) hx hb hts hin_7 tyX6 tyX6_ok nmX6 hown hK dd hw 302 (by omega) c_302 rfl 14 (by decide) hf_238 (fun _ h => h) rfl rfl rfl (Nat.le_of_ble_eq_true rfl) rfl dX6_due_94 (fun H locs hw => ?_)
            obtain ⟨f_42, ef_42⟩ : ∃ z, z = va_up f_41 302 (.inr (7, mO ad (n_39 7) (n_39 0) (n_39 1) (n_39 2) (g_40 13 0) ((n_39 3) + 1) (n_39 4) (n_39 5) zn_38)) := ⟨_, rfl⟩
            have hw : xw D vwCl N ad B s.heap f_42 H locs := by rw [ef_42]; exact hw
            have c_302 : f_42 302 = .inr (7, mO ad (n_39 7) (n_39 0) (n_39 1) (n_39 2) (g_40 13 0) ((n_39 3) + 1) (n_39 4) (n_39 5) zn_38) := va_up_of ef_42
            refine lv_aload_n hx hb dX6_due_97 rfl (lv_at hl 1 rfl) ?_
            refine x_get (ci := 7) (C := RX6) (T := TX6) (n := 32) (ref := RX6) hx hb hts hin_7 hown hK hw 302 (by omega) c_302 rfl 11 (by decide) hf_32 (fun _ h => h) rfl dX6_due_98 ?_
            refine lv_iload_n hx hb dX6_due_101 rfl (lv_at hl 0 rfl) ?_
            refine lv_dup2_11 hx hb dX6_due_102 rfl rfl ?_
            have c_310 : f_42 310 = ai (ca 0) 20 (g_40 7) := by rw [ef_42, va_up_ne _ _ (by decide), ef_41, va_up_ne _ _ (by decide)]; exact c_310
            refine x_iald (j := j9) hx hb hK hw 310 0 (by omega) c_310 rfl rfl (by omega) (by decide) dX6_due_103 ?_
            refine lv_aload_n hx hb dX6_due_104 rfl (lv_at hl 1 rfl) ?_
            refine x_get (ci := 7) (C := RX6) (T := TX6) (n := 32) (ref := RX6) hx hb hts hin_7 hown hK hw 302 (by omega) c_302 rfl 12 (by decide) hf_35 (fun _ h => h) rfl dX6_due_105 ?_
            refine lv_iload_n hx hb dX6_due_108 rfl (lv_at hl 0 rfl) ?_
            have c_311 : f_42 311 = ai (ca 0) 20 (g_40 8) := by rw [ef_42, va_up_ne _ _ (by decide), ef_41, va_up_ne _ _ (by decide)]; exact c_311
            refine x_iald (j := j9) hx hb hK hw 311 0 (by omega) c_311 rfl rfl (by omega) (by decide) dX6_due_109 ?_
            refine lv_iload_n hx hb dX6_due_110 rfl (lv_at hl 2 rfl) ?_
            refine lv_aload_n hx hb dX6_due_111 rfl (lv_at hl 1 rfl) ?_
            refine x_get (ci := 7) (C := RX6) (T := TX6) (n := 32) (ref := RX6) hx hb hts hin_7 hown hK hw 302 (by omega) c_302 rfl 11 (by decide) hf_32 (fun _ h => h) rfl dX6_due_112 ?_
            refine lv_iload_n hx hb dX6_due_115 rfl (lv_at hl 0 rfl) ?_
            refine x_iald (j := j9) hx hb hK hw 310 0 (by omega) c_310 rfl rfl (by omega) (by decide) dX6_due_116 ?_
            refine lv_isub hx hb dX6_due_117 ?_
            refine lv_aload_n hx hb dX6_due_118 rfl (lv_at hl 1 rfl) ?_
            refine x_get (ci := 7) (C := RX6) (T := TX6) (n := 32) (ref := RX6) hx hb hts hin_7 hown hK hw 302 (by omega) c_302 rfl 12 (by decide) hf_35 (fun _ h => h) rfl dX6_due_119 ?_
            refine lv_iload_n hx hb dX6_due_122 rfl (lv_at hl 0 rfl) ?_
            refine x_iald (j := j9) hx hb hK hw 311 0 (by omega) c_311 rfl rfl (by omega) (by decide) dX6_due_123 ?_
            refine lv_idiv hx hb dX6_due_124 hnz ?_
            refine lv_iconst (v := nI 1) hx hb dX6_due_125 (by decide) ?_
            refine lv_iadd hx hb dX6_due_126 ?_
            refine lv_imul hx hb dX6_due_127 ?_
            refine lv_iadd hx hb dX6_due_128 ?_
            refine lv_topi (fun x_43 ex_43 => ?_)
            refine x_iast (j := j9) hx hb hK dd hw 310 0 (by omega) c_310 rfl rfl (by omega) (by decide) dX6_due_129 (fun H locs hw => ?_)
            obtain ⟨f_44, ef_44⟩ : ∃ z, z = va_up f_42 310 (ai (ca 0) 20 (upd (g_40 7) j9 x_43)) := ⟨_, rfl⟩
            have hw : xw D vwCl N ad B s.heap f_44 H locs := by rw [ef_44]; exact hw
            have c_310 : f_44 310 = ai (ca 0) 20 (upd (g_40 7) j9 x_43) := va_up_of ef_44
            refine lv_goto (tgt := 36) hx hb dX6_due_130 (by decide) ?_
            have c_302 : f_44 302 = .inr (7, mO ad (n_39 7) (n_39 0) (n_39 1) (n_39 2) (g_40 13 0) ((n_39 3) + 1) (n_39 4) (n_39 5) zn_38) := by rw [ef_44, va_up_ne _ _ (by decide)]; exact c_302
            have c_303 : f_44 303 = ai (ca 1) 200 (g_40 0) := by rw [ef_44, va_up_ne _ _ (by decide), ef_42, va_up_ne _ _ (by decide), ef_41, va_up_ne _ _ (by decide)]; exact c_303
            have c_304 : f_44 304 = ai (ca 1) 4000 (g_40 1) := by rw [ef_44, va_up_ne _ _ (by decide), ef_42, va_up_ne _ _ (by decide), ef_41, va_up_ne _ _ (by decide)]; exact c_304
            have c_305 : f_44 305 = ai (ca 0) 20 (g_40 2) := by rw [ef_44, va_up_ne _ _ (by decide), ef_42, va_up_ne _ _ (by decide), ef_41, va_up_ne _ _ (by decide)]; exact c_305
            have c_306 : f_44 306 = ai (ca 0) 20 (g_40 3) := by rw [ef_44, va_up_ne _ _ (by decide), ef_42, va_up_ne _ _ (by decide), ef_41, va_up_ne _ _ (by decide)]; exact c_306
            have c_307 : f_44 307 = ai (ca 1) 720 (g_40 4) := by rw [ef_44, va_up_ne _ _ (by decide), ef_42, va_up_ne _ _ (by decide), ef_41, va_up_ne _ _ (by decide)]; exact c_307
            have c_308 : f_44 308 = ai (ca 0) 20 (g_40 5) := by rw [ef_44, va_up_ne _ _ (by decide), ef_42, va_up_ne _ _ (by decide), ef_41, va_up_ne _ _ (by decide)]; exact c_308
            have c_309 : f_44 309 = ai (ca 0) 20 (g_40 6) := by rw [ef_44, va_up_ne _ _ (by decide), ef_42, va_up_ne _ _ (by decide), ef_41, va_up_ne _ _ (by decide)]; exact c_309
            have c_311 : f_44 311 = ai (ca 0) 20 (g_40 8) := by rw [ef_44, va_up_ne _ _ (by decide)]; exact c_311
            have c_312 : f_44 312 = ai (ca 0) 20 (g_40 9) := by rw [ef_44, va_up_ne _ _ (by decide), ef_42, va_up_ne _ _ (by decide), ef_41, va_up_ne _ _ (by decide)]; exact c_312
            have c_313 : f_44 313 = ai (ca 2) 20 (upd (g_40 10) (n_7 3) (nI 0)) := by rw [ef_44, va_up_ne _ _ (by decide), ef_42, va_up_ne _ _ (by decide)]; exact c_313
            have c_314 : f_44 314 = ai (ca 0) 200 (g_40 11) := by rw [ef_44, va_up_ne _ _ (by decide), ef_42, va_up_ne _ _ (by decide), ef_41, va_up_ne _ _ (by decide)]; exact c_314
            have c_315 : f_44 315 = ai (ca 0) 200 (g_40 12) := by rw [ef_44, va_up_ne _ _ (by decide), ef_42, va_up_ne _ _ (by decide), ef_41, va_up_ne _ _ (by decide)]; exact c_315
            have c_316 : f_44 316 = ai (ca 0) 200 (g_40 14) := by rw [ef_44, va_up_ne _ _ (by decide), ef_42, va_up_ne _ _ (by decide), ef_41, va_up_ne _ _ (by decide)]; exact c_316
            have c_317 : f_44 317 = ai (ca 1) 6400 (g_40 15) := by rw [ef_44, va_up_ne _ _ (by decide), ef_42, va_up_ne _ _ (by decide), ef_41, va_up_ne _ _ (by decide)]; exact c_317
            have c_318 : f_44 318 = ai (ca 1) 32 (g_40 16) := by rw [ef_44, va_up_ne _ _ (by decide), ef_42, va_up_ne _ _ (by decide), ef_41, va_up_ne _ _ (by decide)]; exact c_318
            have c_319 : f_44 319 = ai (ca 1) 320 (z_37 0) := by rw [ef_44, va_up_ne _ _ (by decide), ef_42, va_up_ne _ _ (by decide), ef_41, va_up_ne _ _ (by decide)]; exact c_319
            have c_320 : f_44 320 = ai (ca 1) 36 (z_37 1) := by rw [ef_44, va_up_ne _ _ (by decide), ef_42, va_up_ne _ _ (by decide), ef_41, va_up_ne _ _ (by decide)]; exact c_320
            have c_321 : f_44 321 = ai (ca 0) 64 (z_37 2) := by rw [ef_44, va_up_ne _ _ (by decide), ef_42, va_up_ne _ _ (by decide), ef_41, va_up_ne _ _ (by decide)]; exact c_321
            have c_322 : f_44 322 = ai (ca 0) 8 (z_37 3) := by rw [ef_44, va_up_ne _ _ (by decide), ef_42, va_up_ne _ _ (by decide), ef_41, va_up_ne _ _ (by decide)]; exact c_322
            have c_323 : f_44 323 = ai (ca 0) 8 (z_37 4) := by rw [ef_44, va_up_ne _ _ (by decide), ef_42, va_up_ne _ _ (by decide), ef_41, va_up_ne _ _ (by decide)]; exact c_323
            have c_324 : f_44 324 = ai (ca 0) 8 shR := by rw [ef_44, va_up_ne _ _ (by decide), ef_42, va_up_ne _ _ (by decide), ef_41, va_up_ne _ _ (by decide)]; exact c_324
            have c_325 : f_44 325 = ai (ca 0) 64 shK := by rw [ef_44, va_up_ne _ _ (by decide), ef_42, va_up_ne _ _ (by decide), ef_41, va_up_ne _ _ (by decide)]; exact c_325
            have c_310 : f_44 310 = ai (ca 0) 20 (upd (g_40 7) j9 (((g_40 7) j9) + (((g_40 8) j9) * ((((nI j) - ((g_40 7) j9)) / ((g_40 8) j9)) + (nI 1))))) := by rw [c_310]; simp only [ex_43]
            have qn_0 : (va_up n_39 3 ((n_39 3) + 1)) 0 = n_39 0 := by rw [va_up_ne _ _ (by decide)]
            have qn_1 : (va_up n_39 3 ((n_39 3) + 1)) 1 = n_39 1 := by rw [va_up_ne _ _ (by decide)]
            have qn_2 : (va_up n_39 3 ((n_39 3) + 1)) 2 = n_39 2 := by rw [va_up_ne _ _ (by decide)]
            have qn_3 : (va_up n_39 3 ((n_39 3) + 1)) 3 = (n_39 3) + 1 := by rw [va_up_self]
            have qn_4 : (va_up n_39 3 ((n_39 3) + 1)) 4 = n_39 4 := by rw [va_up_ne _ _ (by decide)]
            have qn_5 : (va_up n_39 3 ((n_39 3) + 1)) 5 = n_39 5 := by rw [va_up_ne _ _ (by decide)]
            have qn_6 : (va_up n_39 3 ((n_39 3) + 1)) 6 = n_39 6 := by rw [va_up_ne _ _ (by decide)]
            have qn_7 : (va_up n_39 3 ((n_39 3) + 1)) 7 = n_39 7 := by rw [va_up_ne _ _ (by decide)]
            have qg_0 : (va_up (va_up g_40 7 (upd (g_40 7) j9 (((g_40 7) j9) + (((g_40 8) j9) * ((((nI j) - ((g_40 7) j9)) / ((g_40 8) j9)) + (nI 1)))))) 10 (upd (g_40 10) (n_7 3) (nI 0))) 0 = g_40 0 := by rw [va_up_ne _ _ (by decide), va_up_ne _ _ (by decide)]
            have qg_1 : (va_up (va_up g_40 7 (upd (g_40 7) j9 (((g_40 7) j9) + (((g_40 8) j9) * ((((nI j) - ((g_40 7) j9)) / ((g_40 8) j9)) + (nI 1)))))) 10 (upd (g_40 10) (n_7 3) (nI 0))) 1 = g_40 1 := by rw [va_up_ne _ _ (by decide), va_up_ne _ _ (by decide)]
            have qg_2 : (va_up (va_up g_40 7 (upd (g_40 7) j9 (((g_40 7) j9) + (((g_40 8) j9) * ((((nI j) - ((g_40 7) j9)) / ((g_40 8) j9)) + (nI 1)))))) 10 (upd (g_40 10) (n_7 3) (nI 0))) 2 = g_40 2 := by rw [va_up_ne _ _ (by decide), va_up_ne _ _ (by decide)]
            have qg_3 : (va_up (va_up g_40 7 (upd (g_40 7) j9 (((g_40 7) j9) + (((g_40 8) j9) * ((((nI j) - ((g_40 7) j9)) / ((g_40 8) j9)) + (nI 1)))))) 10 (upd (g_40 10) (n_7 3) (nI 0))) 3 = g_40 3 := by rw [va_up_ne _ _ (by decide), va_up_ne _ _ (by decide)]
            have qg_4 : (va_up (va_up g_40 7 (upd (g_40 7) j9 (((g_40 7) j9) + (((g_40 8) j9) * ((((nI j) - ((g_40 7) j9)) / ((g_40 8) j9)) + (nI 1)))))) 10 (upd (g_40 10) (n_7 3) (nI 0))) 4 = g_40 4 := by rw [va_up_ne _ _ (by decide), va_up_ne _ _ (by decide)]
            have qg_5 : (va_up (va_up g_40 7 (upd (g_40 7) j9 (((g_40 7) j9) + (((g_40 8) j9) * ((((nI j) - ((g_40 7) j9)) / ((g_40 8) j9)) + (nI 1)))))) 10 (upd (g_40 10) (n_7 3) (nI 0))) 5 = g_40 5 := by rw [va_up_ne _ _ (by decide), va_up_ne _ _ (by decide)]
            have qg_6 : (va_up (va_up g_40 7 (upd (g_40 7) j9 (((g_40 7) j9) + (((g_40 8) j9) * ((((nI j) - ((g_40 7) j9)) / ((g_40 8) j9)) + (nI 1)))))) 10 (upd (g_40 10) (n_7 3) (nI 0))) 6 = g_40 6 := by rw [va_up_ne _ _ (by decide), va_up_ne _ _ (by decide)]
            have qg_7 : (va_up (va_up g_40 7 (upd (g_40 7) j9 (((g_40 7) j9) + (((g_40 8) j9) * ((((nI j) - ((g_40 7) j9)) / ((g_40 8) j9)) + (nI 1)))))) 10 (upd (g_40 10) (n_7 3) (nI 0))) 7 = upd (g_40 7) j9 (((g_40 7) j9) + (((g_40 8) j9) * ((((nI j) - ((g_40 7) j9)) / ((g_40 8) j9)) + (nI 1)))) := by rw [va_up_ne _ _ (by decide), va_up_self]
            have qg_8 : (va_up (va_up g_40 7 (upd (g_40 7) j9 (((g_40 7) j9) + (((g_40 8) j9) * ((((nI j) - ((g_40 7) j9)) / ((g_40 8) j9)) + (nI 1)))))) 10 (upd (g_40 10) (n_7 3) (nI 0))) 8 = g_40 8 := by rw [va_up_ne _ _ (by decide), va_up_ne _ _ (by decide)]
            have qg_9 : (va_up (va_up g_40 7 (upd (g_40 7) j9 (((g_40 7) j9) + (((g_40 8) j9) * ((((nI j) - ((g_40 7) j9)) / ((g_40 8) j9)) + (nI 1)))))) 10 (upd (g_40 10) (n_7 3) (nI 0))) 9 = g_40 9 := by rw [va_up_ne _ _ (by decide), va_up_ne _ _ (by decide)]
            have qg_10 : (va_up (va_up g_40 7 (upd (g_40 7) j9 (((g_40 7) j9) + (((g_40 8) j9) * ((((nI j) - ((g_40 7) j9)) / ((g_40 8) j9)) + (nI 1)))))) 10 (upd (g_40 10) (n_7 3) (nI 0))) 10 = upd (g_40 10) (n_7 3) (nI 0) := by rw [va_up_self]
            have qg_11 : (va_up (va_up g_40 7 (upd (g_40 7) j9 (((g_40 7) j9) + (((g_40 8) j9) * ((((nI j) - ((g_40 7) j9)) / ((g_40 8) j9)) + (nI 1)))))) 10 (upd (g_40 10) (n_7 3) (nI 0))) 11 = g_40 11 := by rw [va_up_ne _ _ (by decide), va_up_ne _ _ (by decide)]
            have qg_12 : (va_up (va_up g_40 7 (upd (g_40 7) j9 (((g_40 7) j9) + (((g_40 8) j9) * ((((nI j) - ((g_40 7) j9)) / ((g_40 8) j9)) + (nI 1)))))) 10 (upd (g_40 10) (n_7 3) (nI 0))) 12 = g_40 12 := by rw [va_up_ne _ _ (by decide), va_up_ne _ _ (by decide)]
            have qg_13 : (va_up (va_up g_40 7 (upd (g_40 7) j9 (((g_40 7) j9) + (((g_40 8) j9) * ((((nI j) - ((g_40 7) j9)) / ((g_40 8) j9)) + (nI 1)))))) 10 (upd (g_40 10) (n_7 3) (nI 0))) 13 = g_40 13 := by rw [va_up_ne _ _ (by decide), va_up_ne _ _ (by decide)]
            have qg_14 : (va_up (va_up g_40 7 (upd (g_40 7) j9 (((g_40 7) j9) + (((g_40 8) j9) * ((((nI j) - ((g_40 7) j9)) / ((g_40 8) j9)) + (nI 1)))))) 10 (upd (g_40 10) (n_7 3) (nI 0))) 14 = g_40 14 := by rw [va_up_ne _ _ (by decide), va_up_ne _ _ (by decide)]
            have qg_15 : (va_up (va_up g_40 7 (upd (g_40 7) j9 (((g_40 7) j9) + (((g_40 8) j9) * ((((nI j) - ((g_40 7) j9)) / ((g_40 8) j9)) + (nI 1)))))) 10 (upd (g_40 10) (n_7 3) (nI 0))) 15 = g_40 15 := by rw [va_up_ne _ _ (by decide), va_up_ne _ _ (by decide)]
            have qg_16 : (va_up (va_up g_40 7 (upd (g_40 7) j9 (((g_40 7) j9) + (((g_40 8) j9) * ((((nI j) - ((g_40 7) j9)) / ((g_40 8) j9)) + (nI 1)))))) 10 (upd (g_40 10) (n_7 3) (nI 0))) 16 = g_40 16 := by rw [va_up_ne _ _ (by decide), va_up_ne _ _ (by decide)]
            have hRk : RepM ca ad (va_up n_39 3 ((n_39 3) + 1)) (va_up (va_up g_40 7 (upd (g_40 7) j9 (((g_40 7) j9) + (((g_40 8) j9) * ((((nI j) - ((g_40 7) j9)) / ((g_40 8) j9)) + (nI 1)))))) 10 (upd (g_40 10) (n_7 3) (nI 0))) z_37 zn_38 tb f_44 := ⟨(by rw [qn_7, qn_0, qn_1, qn_2, qn_3, qn_4, qn_5, qg_13]; exact c_302),
                  (by rw [qg_0]; exact c_303),
                  (by rw [qg_1]; exact c_304),
                  (by rw [qg_2]; exact c_305),
                  (by rw [qg_3]; exact c_306),
                  (by rw [qg_4]; exact c_307),
                  (by rw [qg_5]; exact c_308),
                  (by rw [qg_6]; exact c_309),
                  (by rw [qg_7]; exact c_310),
                  (by rw [qg_8]; exact c_311),
                  (by rw [qg_9]; exact c_312),
                  (by rw [qg_10]; exact c_313),
                  (by rw [qg_11]; exact c_314),
                  (by rw [qg_12]; exact c_315),
                  (by rw [qg_14]; exact c_316),
                  (by rw [qg_15]; exact c_317),
                  (by rw [qg_16]; exact c_318),
                  c_319,
                  c_320,
                  c_321,
                  c_322,
                  c_323,
                  c_324,
                  c_325, hzn⟩
            have hfr : ∀ y, (y < 302 ∨ 326 ≤ y) → f_44 y = f y := (fun y hy => by rw [ef_44, va_up_ne _ _ (by omega), ef_42, va_up_ne _ _ (by omega), ef_41, va_up_ne _ _ (by omega)]; exact hfr y hy)
            have hRk : RepM ca ad ((mdS n g (nI j) (k + 1)).1) ((mdS n g (nI j) (k + 1)).2) z_37 zn_38 tb f_44 := by rw [mdS_some (n := n) (g := g) (y := nI j) (k := k) (j := j9) (by rw [← eg_8, ← d2]; exact ej9), ← en_7, ← eg_8]; unfold mdStep; rw [← eN, ← eC, show mfitI (mdG1 n_7 g_8 j9) j9 = _ from q3]; exact hRk
            exact ih_36 (k + 1) _ _ _ _ _ _ (by omega) (by omega) (by rw [mdS_some (n := n) (g := g) (y := nI j) (k := k) (j := j9) (by rw [← eg_8, ← d2]; exact ej9), mdStep_3, hk3]) hRk hfr hw (lv_sub hl [1, 2] rfl)
          · refine lv_aload_n hx hb dX6_due_80 rfl (lv_at hl 1 rfl) ?_
            refine lv_iload_n hx hb dX6_due_81 rfl (lv_at hl 0 rfl) ?_
            refine lv_iload_n hx hb dX6_due_82 rfl (lv_at hl 2 rfl) ?_
            have c_303 : f_14 303 = ai (ca 1) 200 (g_8 0) := by rw [ef_14, va_up_ne _ _ (by decide)]; exact c_303
            have c_304 : f_14 304 = ai (ca 1) 4000 (g_8 1) := by rw [ef_14, va_up_ne _ _ (by decide)]; exact c_304
            have c_305 : f_14 305 = ai (ca 0) 20 (g_8 2) := by rw [ef_14, va_up_ne _ _ (by decide)]; exact c_305
            have c_306 : f_14 306 = ai (ca 0) 20 (g_8 3) := by rw [ef_14, va_up_ne _ _ (by decide)]; exact c_306
            have c_307 : f_14 307 = ai (ca 1) 720 (g_8 4) := by rw [ef_14, va_up_ne _ _ (by decide)]; exact c_307
            have c_308 : f_14 308 = ai (ca 0) 20 (g_8 5) := by rw [ef_14, va_up_ne _ _ (by decide)]; exact c_308
            have c_309 : f_14 309 = ai (ca 0) 20 (g_8 6) := by rw [ef_14, va_up_ne _ _ (by decide)]; exact c_309
            have c_310 : f_14 310 = ai (ca 0) 20 (g_8 7) := by rw [ef_14, va_up_ne _ _ (by decide)]; exact c_310
            have c_311 : f_14 311 = ai (ca 0) 20 (g_8 8) := by rw [ef_14, va_up_ne _ _ (by decide)]; exact c_311
            have c_313 : f_14 313 = ai (ca 2) 20 (g_8 10) := by rw [ef_14, va_up_ne _ _ (by decide)]; exact c_313
            have c_314 : f_14 314 = ai (ca 0) 200 (g_8 11) := by rw [ef_14, va_up_ne _ _ (by decide)]; exact c_314
            have c_315 : f_14 315 = ai (ca 0) 200 (g_8 12) := by rw [ef_14, va_up_ne _ _ (by decide)]; exact c_315
            have c_316 : f_14 316 = ai (ca 0) 200 (g_8 14) := by rw [ef_14, va_up_ne _ _ (by decide)]; exact c_316
            have c_317 : f_14 317 = ai (ca 1) 6400 (g_8 15) := by rw [ef_14, va_up_ne _ _ (by decide)]; exact c_317
            have c_318 : f_14 318 = ai (ca 1) 32 (g_8 16) := by rw [ef_14, va_up_ne _ _ (by decide)]; exact c_318
            have c_319 : f_14 319 = ai (ca 1) 320 (zc 0) := by rw [ef_14, va_up_ne _ _ (by decide)]; exact c_319
            have c_320 : f_14 320 = ai (ca 1) 36 (zc 1) := by rw [ef_14, va_up_ne _ _ (by decide)]; exact c_320
            have c_321 : f_14 321 = ai (ca 0) 64 (zc 2) := by rw [ef_14, va_up_ne _ _ (by decide)]; exact c_321
            have c_322 : f_14 322 = ai (ca 0) 8 (zc 3) := by rw [ef_14, va_up_ne _ _ (by decide)]; exact c_322
            have c_323 : f_14 323 = ai (ca 0) 8 (zc 4) := by rw [ef_14, va_up_ne _ _ (by decide)]; exact c_323
            have c_324 : f_14 324 = ai (ca 0) 8 shR := by rw [ef_14, va_up_ne _ _ (by decide)]; exact c_324
            have c_325 : f_14 325 = ai (ca 0) 64 shK := by rw [ef_14, va_up_ne _ _ (by decide)]; exact c_325
            have qg_0 : (va_up g_8 9 (upd (g_8 9) (n_7 3) (nI j9))) 0 = g_8 0 := by rw [va_up_ne _ _ (by decide)]
            have qg_1 : (va_up g_8 9 (upd (g_8 9) (n_7 3) (nI j9))) 1 = g_8 1 := by rw [va_up_ne _ _ (by decide)]
            have qg_2 : (va_up g_8 9 (upd (g_8 9) (n_7 3) (nI j9))) 2 = g_8 2 := by rw [va_up_ne _ _ (by decide)]
            have qg_3 : (va_up g_8 9 (upd (g_8 9) (n_7 3) (nI j9))) 3 = g_8 3 := by rw [va_up_ne _ _ (by decide)]
            have qg_4 : (va_up g_8 9 (upd (g_8 9) (n_7 3) (nI j9))) 4 = g_8 4 := by rw [va_up_ne _ _ (by decide)]
            have qg_5 : (va_up g_8 9 (upd (g_8 9) (n_7 3) (nI j9))) 5 = g_8 5 := by rw [va_up_ne _ _ (by decide)]
            have qg_6 : (va_up g_8 9 (upd (g_8 9) (n_7 3) (nI j9))) 6 = g_8 6 := by rw [va_up_ne _ _ (by decide)]
            have qg_7 : (va_up g_8 9 (upd (g_8 9) (n_7 3) (nI j9))) 7 = g_8 7 := by rw [va_up_ne _ _ (by decide)]
            have qg_8 : (va_up g_8 9 (upd (g_8 9) (n_7 3) (nI j9))) 8 = g_8 8 := by rw [va_up_ne _ _ (by decide)]
            have qg_9 : (va_up g_8 9 (upd (g_8 9) (n_7 3) (nI j9))) 9 = upd (g_8 9) (n_7 3) (nI j9) := by rw [va_up_self]
            have qg_10 : (va_up g_8 9 (upd (g_8 9) (n_7 3) (nI j9))) 10 = g_8 10 := by rw [va_up_ne _ _ (by decide)]
            have qg_11 : (va_up g_8 9 (upd (g_8 9) (n_7 3) (nI j9))) 11 = g_8 11 := by rw [va_up_ne _ _ (by decide)]
            have qg_12 : (va_up g_8 9 (upd (g_8 9) (n_7 3) (nI j9))) 12 = g_8 12 := by rw [va_up_ne _ _ (by decide)]
            have qg_13 : (va_up g_8 9 (upd (g_8 9) (n_7 3) (nI j9))) 13 = g_8 13 := by rw [va_up_ne _ _ (by decide)]
            have qg_14 : (va_up g_8 9 (upd (g_8 9) (n_7 3) (nI j9))) 14 = g_8 14 := by rw [va_up_ne _ _ (by decide)]
            have qg_15 : (va_up g_8 9 (upd (g_8 9) (n_7 3) (nI j9))) 15 = g_8 15 := by rw [va_up_ne _ _ (by decide)]
            have qg_16 : (va_up g_8 9 (upd (g_8 9) (n_7 3) (nI j9))) 16 = g_8 16 := by rw [va_up_ne _ _ (by decide)]
            have hRk : RepM ca ad n_7 (va_up g_8 9 (upd (g_8 9) (n_7 3) (nI j9))) zc znc tb f_14 := ⟨(by rw [qg_13]; exact c_302),
                  (by rw [qg_0]; exact c_303),
                  (by rw [qg_1]; exact c_304),
                  (by rw [qg_2]; exact c_305),
                  (by rw [qg_3]; exact c_306),
                  (by rw [qg_4]; exact c_307),
                  (by rw [qg_5]; exact c_308),
                  (by rw [qg_6]; exact c_309),
                  (by rw [qg_7]; exact c_310),
                  (by rw [qg_8]; exact c_311),
                  (by rw [qg_9]; exact c_312),
                  (by rw [qg_10]; exact c_313),
                  (by rw [qg_11]; exact c_314),
                  (by rw [qg_12]; exact c_315),
                  (by rw [qg_14]; exact c_316),
                  (by rw [qg_15]; exact c_317),
                  (by rw [qg_16]; exact c_318),
                  c_319,
                  c_320,
                  c_321,
                  c_322,
                  c_323,
                  c_324,
                  c_325, hzn⟩
            have hfr : ∀ y, (y < 302 ∨ 326 ≤ y) → f_14 y = f y := (fun y hy => by rw [ef_14, va_up_ne _ _ (by omega)]; exact hfr y hy)
            refine x_Vi (q := 302) (As := [.int (nI j9), .int (nI j)]) (rest := [.int (nI (n_7 3)), .ref (ad 313)]) ⟨hx, hb, hml, hown, hts⟩ (k_X6_check_noF l D ca N ad B tR tK f_14 dd hN n_7 (va_up g_8 9 (upd (g_8 9) (n_7 3) (nI j9))) zc znc tb hRk j9 (nI j) (zN g j9) (by omega) (by show va_up g_8 9 _ 2 j9 = _; rw [va_up_ne _ _ (by decide), dz]; exact (hsz j9 (by omega)).2) (hsz j9 (by omega)).1 hr9 (by have ezN : zN (va_up g_8 9 (upd (g_8 9) (n_7 3) (nI j9))) j9 = zN g j9 := (by unfold zN; rw [va_up_ne _ _ (by decide), dz]); rw [← ezN]; exact hf9)) (cwV 2 hts gX6_due_X6_check rfl rfl rfl (by decide +kernel) ⟨Nat.le_of_ble_eq_true rfl, Nat.le_of_ble_eq_true rfl⟩) hK hE hB hw (by omega) c_302 rfl rfl rfl rfl hl.1 (Nat.le_of_ble_eq_true rfl) ⟨Nat.zero_le _, Nat.zero_le _⟩ dX6_due_83 (fun r_46 f_45 H locs hp hw => ?_)
            obtain ⟨er, hp⟩ := hp
            rw [← er]
            obtain ⟨z_47, zn_48, hR2, hfr2⟩ := hp
            obtain ⟨g_50, eg_50⟩ : ∃ x, x = (va_up g_8 9 (upd (g_8 9) (n_7 3) (nI j9))) := ⟨_, rfl⟩
            rw [← eg_50] at hR2
            have hfr : ∀ y, (y < 302 ∨ 326 ≤ y) → f_45 y = f y := fun y hy => (hfr2 y hy).trans (hfr y hy)
            obtain ⟨c_302, c_303, c_304, c_305, c_306, c_307, c_308, c_309, c_310, c_311, c_312, c_313, c_314, c_315, c_316, c_317, c_318, c_319, c_320, c_321, c_322, c_323, c_324, c_325, hzn⟩ := hR2
            obtain ⟨q1, q2, q3⟩ := mchkG_noF (y := nI j) hf9 hr9
            have eC : g_50 = mchkG n_7 (mdG1 n_7 g_8 j9) j9 (nI j) := (show g_50 = mchkG n_7 (va_up g_8 9 (upd (g_8 9) (n_7 3) (nI j9))) j9 (nI j) by rw [q1]; exact eg_50)
            have eN : n_7 = mchkN n_7 := by rw [q2]
            have hnz : ¬ g_50 8 j9 = 0 := by rw [eC, mchkG_at (by decide) (by decide)]; show ¬ va_up g_8 9 _ 8 j9 = 0; rw [va_up_ne _ _ (by decide), d8]; exact hsp j9 (by omega) (d7 j9 hj8.1)
            have n3 : n_7 3 = k := by rw [eN, mchkN_at (by decide)]; exact d3
            refine x_zast (j := n_7 3) hx hb hK dd hw 313 2 (by omega) c_313 rfl rfl (by omega) (by decide) (by first | exact Or.inl rfl | exact Or.inr rfl) dX6_due_86 (fun H locs hw => ?_)
            obtain ⟨f_51, ef_51⟩ : ∃ z, z = va_up f_45 313 (ai (ca 2) 20 (upd (g_50 10) (n_7 3) (nI 0))) := ⟨_, rfl⟩
            have hw : xw D vwCl N ad B s.heap f_51 H locs := by rw [ef_51]; exact hw
            have c_313 : f_51 313 = ai (ca 2) 20 (upd (g_50 10) (n_7 3) (nI 0)) := va_up_of ef_51
            refine lv_aload_n hx hb dX6_due_87 rfl (lv_at hl 1 rfl) ?_
            refine lv_dup hx hb dX6_due_88 rfl ?_
            have c_302 : f_51 302 = .inr (7, mO ad (n_7 7) (n_7 0) (n_7 1) (n_7 2) (g_50 13 0) (n_7 3) (n_7 4) (n_7 5) zn_48) := by rw [ef_51, va_up_ne _ _ (by decide)]; exact c_302
            refine x_get (ci := 7) (C := RX6) (T := TX6) (n := 32) (ref := RX6) hx hb hts hin_7 hown hK hw 302 (by omega) c_302 rfl 14 (by decide) hf_238 (fun _ h => h) rfl dX6_due_89 ?_
            refine lv_iconst (v := nI 1) hx hb dX6_due_92 (by decide) ?_
            refine n_iadd hx hb dX6_due_93 ?_
            refine x_put (ci := 7) (C := RX6) (T := TX6) (n := 32) (ref := RX6) (fs' := mO ad (n_7 7) (n_7 0) (n_7 1) (n_7 2) (g_50 13 0) ((n_7 3) + 1) (n_7 4) (n_7 5) zn_48) hx hb hts hin_7 tyX6 tyX6_ok nmX6 hown hK dd hw 302 (by omega) c_302 rfl 14 (by decide) hf_238 (fun _ h => h) rfl rfl rfl (Nat.le_of_ble_eq_true rfl) rfl dX6_due_94 (fun H locs hw => ?_)
            obtain ⟨f_52, ef_52⟩ : ∃ z, z = va_up f_51 302 (.inr (7, mO ad (n_7 7) (n_7 0) (n_7 1) (n_7 2) (g_50 13 0) ((n_7 3) + 1) (n_7 4) (n_7 5) zn_48)) := ⟨_, rfl⟩
            have hw : xw D vwCl N ad B s.heap f_52 H locs := by rw [ef_52]; exact hw
            have c_302 : f_52 302 = .inr (7, mO ad (n_7 7) (n_7 0) (n_7 1) (n_7 2) (g_50 13 0) ((n_7 3) + 1) (n_7 4) (n_7 5) zn_48) := va_up_of ef_52
            refine lv_aload_n hx hb dX6_due_97 rfl (lv_at hl 1 rfl) ?_
            refine x_get (ci := 7) (C := RX6) (T := TX6) (n := 32) (ref := RX6) hx hb hts hin_7 hown hK hw 302 (by omega) c_302 rfl 11 (by decide) hf_32 (fun _ h => h) rfl dX6_due_98 ?_
            refine lv_iload_n hx hb dX6_due_101 rfl (lv_at hl 0 rfl) ?_
            refine lv_dup2_11 hx hb dX6_due_102 rfl rfl ?_
            have c_310 : f_52 310 = ai (ca 0) 20 (g_50 7) := by rw [ef_52, va_up_ne _ _ (by decide), ef_51, va_up_ne _ _ (by decide)]; exact c_310
            refine x_iald (j := j9) hx hb hK hw 310 0 (by omega) c_310 rfl rfl (by omega) (by decide) dX6_due_103 ?_
            refine lv_aload_n hx hb dX6_due_104 rfl (lv_at hl 1 rfl) ?_
            refine x_get (ci := 7) (C := RX6) (T := TX6) (n := 32) (ref := RX6) hx hb hts hin_7 hown hK hw 302 (by omega) c_302 rfl 12 (by decide) hf_35 (fun _ h => h) rfl dX6_due_105 ?_
            refine lv_iload_n hx hb dX6_due_108 rfl (lv_at hl 0 rfl) ?_
            have c_311 : f_52 311 = ai (ca 0) 20 (g_50 8) := by rw [ef_52, va_up_ne _ _ (by decide), ef_51, va_up_ne _ _ (by decide)]; exact c_311
            refine x_iald (j := j9) hx hb hK hw 311 0 (by omega) c_311 rfl rfl (by omega) (by decide) dX6_due_109 ?_
            refine lv_iload_n hx hb dX6_due_110 rfl (lv_at hl 2 rfl) ?_
            refine lv_aload_n hx hb dX6_due_111 rfl (lv_at hl 1 rfl) ?_
            refine x_get (ci := 7) (C := RX6) (T := TX6) (n := 32) (ref := RX6) hx hb hts hin_7 hown hK hw 302 (by omega) c_302 rfl 11 (by decide) hf_32 (fun _ h => h) rfl dX6_due_112 ?_
            refine lv_iload_n hx hb dX6_due_115 rfl (lv_at hl 0 rfl) ?_
            refine x_iald (j := j9) hx hb hK hw 310 0 (by omega) c_310 rfl rfl (by omega) (by decide) dX6_due_116 ?_
            refine lv_isub hx hb dX6_due_117 ?_
            refine lv_aload_n hx hb dX6_due_118 rfl (lv_at hl 1 rfl) ?_
            refine x_get (ci := 7) (C := RX6) (T := TX6) (n := 32) (ref := RX6) hx hb hts hin_7 hown hK hw 302 (by omega) c_302 rfl 12 (by decide) hf_35 (fun _ h => h) rfl dX6_due_119 ?_
            refine lv_iload_n hx hb dX6_due_122 rfl (lv_at hl 0 rfl) ?_
            refine x_iald (j := j9) hx hb hK hw 311 0 (by omega) c_311 rfl rfl (by omega) (by decide) dX6_due_123 ?_
            refine lv_idiv hx hb dX6_due_124 hnz ?_
            refine lv_iconst (v := nI 1) hx hb dX6_due_125 (by decide) ?_
            refine lv_iadd hx hb dX6_due_126 ?_
            refine lv_imul hx hb dX6_due_127 ?_
            refine lv_iadd hx hb dX6_due_128 ?_
            refine lv_topi (fun x_53 ex_53 => ?_)
            refine x_iast (j := j9) hx hb hK dd hw 310 0 (by omega) c_310 rfl rfl (by omega) (by decide) dX6_due_129 (fun H locs hw => ?_)
            obtain ⟨f_54, ef_54⟩ : ∃ z, z = va_up f_52 310 (ai (ca 0) 20 (upd (g_50 7) j9 x_53)) := ⟨_, rfl⟩
            have hw : xw D vwCl N ad B s.heap f_54 H locs := by rw [ef_54]; exact hw
            have c_310 : f_54 310 = ai (ca 0) 20 (upd (g_50 7) j9 x_53) := va_up_of ef_54
            refine lv_goto (tgt := 36) hx hb dX6_due_130 (by decide) ?_
            have c_302 : f_54 302 = .inr (7, mO ad (n_7 7) (n_7 0) (n_7 1) (n_7 2) (g_50 13 0) ((n_7 3) + 1) (n_7 4) (n_7 5) zn_48) := by rw [ef_54, va_up_ne _ _ (by decide)]; exact c_302
            have c_303 : f_54 303 = ai (ca 1) 200 (g_50 0) := by rw [ef_54, va_up_ne _ _ (by decide), ef_52, va_up_ne _ _ (by decide), ef_51, va_up_ne _ _ (by decide)]; exact c_303
            have c_304 : f_54 304 = ai (ca 1) 4000 (g_50 1) := by rw [ef_54, va_up_ne _ _ (by decide), ef_52, va_up_ne _ _ (by decide), ef_51, va_up_ne _ _ (by decide)]; exact c_304
            have c_305 : f_54 305 = ai (ca 0) 20 (g_50 2) := by rw [ef_54, va_up_ne _ _ (by decide), ef_52, va_up_ne _ _ (by decide), ef_51, va_up_ne _ _ (by decide)]; exact c_305
            have c_306 : f_54 306 = ai (ca 0) 20 (g_50 3) := by rw [ef_54, va_up_ne _ _ (by decide), ef_52, va_up_ne _ _ (by decide), ef_51, va_up_ne _ _ (by decide)]; exact c_306
            have c_307 : f_54 307 = ai (ca 1) 720 (g_50 4) := by rw [ef_54, va_up_ne _ _ (by decide), ef_52, va_up_ne _ _ (by decide), ef_51, va_up_ne _ _ (by decide)]; exact c_307
            have c_308 : f_54 308 = ai (ca 0) 20 (g_50 5) := by rw [ef_54, va_up_ne _ _ (by decide), ef_52, va_up_ne _ _ (by decide), ef_51, va_up_ne _ _ (by decide)]; exact c_308
            have c_309 : f_54 309 = ai (ca 0) 20 (g_50 6) := by rw [ef_54, va_up_ne _ _ (by decide), ef_52, va_up_ne _ _ (by decide), ef_51, va_up_ne _ _ (by decide)]; exact c_309
            have c_311 : f_54 311 = ai (ca 0) 20 (g_50 8) := by rw [ef_54, va_up_ne _ _ (by decide)]; exact c_311
            have c_312 : f_54 312 = ai (ca 0) 20 (g_50 9) := by rw [ef_54, va_up_ne _ _ (by decide), ef_52, va_up_ne _ _ (by decide), ef_51, va_up_ne _ _ (by decide)]; exact c_312
            have c_313 : f_54 313 = ai (ca 2) 20 (upd (g_50 10) (n_7 3) (nI 0)) := by rw [ef_54, va_up_ne _ _ (by decide), ef_52, va_up_ne _ _ (by decide)]; exact c_313
            have c_314 : f_54 314 = ai (ca 0) 200 (g_50 11) := by rw [ef_54, va_up_ne _ _ (by decide), ef_52, va_up_ne _ _ (by decide), ef_51, va_up_ne _ _ (by decide)]; exact c_314
            have c_315 : f_54 315 = ai (ca 0) 200 (g_50 12) := by rw [ef_54, va_up_ne _ _ (by decide), ef_52, va_up_ne _ _ (by decide), ef_51, va_up_ne _ _ (by decide)]; exact c_315
            have c_316 : f_54 316 = ai (ca 0) 200 (g_50 14) := by rw [ef_54, va_up_ne _ _ (by decide), ef_52, va_up_ne _ _ (by decide), ef_51, va_up_ne _ _ (by decide)]; exact c_316
            have c_317 : f_54 317 = ai (ca 1) 6400 (g_50 15) := by rw [ef_54, va_up_ne _ _ (by decide), ef_52, va_up_ne _ _ (by decide), ef_51, va_up_ne _ _ (by decide)]; exact c_317
            have c_318 : f_54 318 = ai (ca 1) 32 (g_50 16) := by rw [ef_54, va_up_ne _ _ (by decide), ef_52, va_up_ne _ _ (by decide), ef_51, va_up_ne _ _ (by decide)]; exact c_318
            have c_319 : f_54 319 = ai (ca 1) 320 (z_47 0) := by rw [ef_54, va_up_ne _ _ (by decide), ef_52, va_up_ne _ _ (by decide), ef_51, va_up_ne _ _ (by decide)]; exact c_319
            have c_320 : f_54 320 = ai (ca 1) 36 (z_47 1) := by rw [ef_54, va_up_ne _ _ (by decide), ef_52, va_up_ne _ _ (by decide), ef_51, va_up_ne _ _ (by decide)]; exact c_320
            have c_321 : f_54 321 = ai (ca 0) 64 (z_47 2) := by rw [ef_54, va_up_ne _ _ (by decide), ef_52, va_up_ne _ _ (by decide), ef_51, va_up_ne _ _ (by decide)]; exact c_321
            have c_322 : f_54 322 = ai (ca 0) 8 (z_47 3) := by rw [ef_54, va_up_ne _ _ (by decide), ef_52, va_up_ne _ _ (by decide), ef_51, va_up_ne _ _ (by decide)]; exact c_322
            have c_323 : f_54 323 = ai (ca 0) 8 (z_47 4) := by rw [ef_54, va_up_ne _ _ (by decide), ef_52, va_up_ne _ _ (by decide), ef_51, va_up_ne _ _ (by decide)]; exact c_323
            have c_324 : f_54 324 = ai (ca 0) 8 shR := by rw [ef_54, va_up_ne _ _ (by decide), ef_52, va_up_ne _ _ (by decide), ef_51, va_up_ne _ _ (by decide)]; exact c_324
            have c_325 : f_54 325 = ai (ca 0) 64 shK := by rw [ef_54, va_up_ne _ _ (by decide), ef_52, va_up_ne _ _ (by decide), ef_51, va_up_ne _ _ (by decide)]; exact c_325
            have c_310 : f_54 310 = ai (ca 0) 20 (upd (g_50 7) j9 (((g_50 7) j9) + (((g_50 8) j9) * ((((nI j) - ((g_50 7) j9)) / ((g_50 8) j9)) + (nI 1))))) := by rw [c_310]; simp only [ex_53]
            have qn_0 : (va_up n_7 3 ((n_7 3) + 1)) 0 = n_7 0 := by rw [va_up_ne _ _ (by decide)]
            have qn_1 : (va_up n_7 3 ((n_7 3) + 1)) 1 = n_7 1 := by rw [va_up_ne _ _ (by decide)]
            have qn_2 : (va_up n_7 3 ((n_7 3) + 1)) 2 = n_7 2 := by rw [va_up_ne _ _ (by decide)]
            have qn_3 : (va_up n_7 3 ((n_7 3) + 1)) 3 = (n_7 3) + 1 := by rw [va_up_self]
            have qn_4 : (va_up n_7 3 ((n_7 3) + 1)) 4 = n_7 4 := by rw [va_up_ne _ _ (by decide)]
            have qn_5 : (va_up n_7 3 ((n_7 3) + 1)) 5 = n_7 5 := by rw [va_up_ne _ _ (by decide)]
            have qn_6 : (va_up n_7 3 ((n_7 3) + 1)) 6 = n_7 6 := by rw [va_up_ne _ _ (by decide)]
            have qn_7 : (va_up n_7 3 ((n_7 3) + 1)) 7 = n_7 7 := by rw [va_up_ne _ _ (by decide)]
            have qg_0 : (va_up (va_up g_50 7 (upd (g_50 7) j9 (((g_50 7) j9) + (((g_50 8) j9) * ((((nI j) - ((g_50 7) j9)) / ((g_50 8) j9)) + (nI 1)))))) 10 (upd (g_50 10) (n_7 3) (nI 0))) 0 = g_50 0 := by rw [va_up_ne _ _ (by decide), va_up_ne _ _ (by decide)]
            have qg_1 : (va_up (va_up g_50 7 (upd (g_50 7) j9 (((g_50 7) j9) + (((g_50 8) j9) * ((((nI j) - ((g_50 7) j9)) / ((g_50 8) j9)) + (nI 1)))))) 10 (upd (g_50 10) (n_7 3) (nI 0))) 1 = g_50 1 := by rw [va_up_ne _ _ (by decide), va_up_ne _ _ (by decide)]
            have qg_2 : (va_up (va_up g_50 7 (upd (g_50 7) j9 (((g_50 7) j9) + (((g_50 8) j9) * ((((nI j) - ((g_50 7) j9)) / ((g_50 8) j9)) + (nI 1)))))) 10 (upd (g_50 10) (n_7 3) (nI 0))) 2 = g_50 2 := by rw [va_up_ne _ _ (by decide), va_up_ne _ _ (by decide)]
            have qg_3 : (va_up (va_up g_50 7 (upd (g_50 7) j9 (((g_50 7) j9) + (((g_50 8) j9) * ((((nI j) - ((g_50 7) j9)) / ((g_50 8) j9)) + (nI 1)))))) 10 (upd (g_50 10) (n_7 3) (nI 0))) 3 = g_50 3 := by rw [va_up_ne _ _ (by decide), va_up_ne _ _ (by decide)]
            have qg_4 : (va_up (va_up g_50 7 (upd (g_50 7) j9 (((g_50 7) j9) + (((g_50 8) j9) * ((((nI j) - ((g_50 7) j9)) / ((g_50 8) j9)) + (nI 1)))))) 10 (upd (g_50 10) (n_7 3) (nI 0))) 4 = g_50 4 := by rw [va_up_ne _ _ (by decide), va_up_ne _ _ (by decide)]
            have qg_5 : (va_up (va_up g_50 7 (upd (g_50 7) j9 (((g_50 7) j9) + (((g_50 8) j9) * ((((nI j) - ((g_50 7) j9)) / ((g_50 8) j9)) + (nI 1)))))) 10 (upd (g_50 10) (n_7 3) (nI 0))) 5 = g_50 5 := by rw [va_up_ne _ _ (by decide), va_up_ne _ _ (by decide)]
            have qg_6 : (va_up (va_up g_50 7 (upd (g_50 7) j9 (((g_50 7) j9) + (((g_50 8) j9) * ((((nI j) - ((g_50 7) j9)) / ((g_50 8) j9)) + (nI 1)))))) 10 (upd (g_50 10) (n_7 3) (nI 0))) 6 = g_50 6 := by rw [va_up_ne _ _ (by decide), va_up_ne _ _ (by decide)]
            have qg_7 : (va_up (va_up g_50 7 (upd (g_50 7) j9 (((g_50 7) j9) + (((g_50 8) j9) * ((((nI j) - ((g_50 7) j9)) / ((g_50 8) j9)) + (nI 1)))))) 10 (upd (g_50 10) (n_7 3) (nI 0))) 7 = upd (g_50 7) j9 (((g_50 7) j9) + (((g_50 8) j9) * ((((nI j) - ((g_50 7) j9)) / ((g_50 8) j9)) + (nI 1)))) := by rw [va_up_ne _ _ (by decide), va_up_self]
            have qg_8 : (va_up (va_up g_50 7 (upd (g_50 7) j9 (((g_50 7) j9) + (((g_50 8) j9) * ((((nI j) - ((g_50 7) j9)) / ((g_50 8) j9)) + (nI 1)))))) 10 (upd (g_50 10) (n_7 3) (nI 0))) 8 = g_50 8 := by rw [va_up_ne _ _ (by decide), va_up_ne _ _ (by decide)]
            have qg_9 : (va_up (va_up g_50 7 (upd (g_50 7) j9 (((g_50 7) j9) + (((g_50 8) j9) * ((((nI j) - ((g_50 7) j9)) / ((g_50 8) j9)) + (nI 1)))))) 10 (upd (g_50 10) (n_7 3) (nI 0))) 9 = g_50 9 := by rw [va_up_ne _ _ (by decide), va_up_ne _ _ (by decide)]
            have qg_10 : (va_up (va_up g_50 7 (upd (g_50 7) j9 (((g_50 7) j9) + (((g_50 8) j9) * ((((nI j) - ((g_50 7) j9)) / ((g_50 8) j9)) + (nI 1)))))) 10 (upd (g_50 10) (n_7 3) (nI 0))) 10 = upd (g_50 10) (n_7 3) (nI 0) := by rw [va_up_self]
            have qg_11 : (va_up (va_up g_50 7 (upd (g_50 7) j9 (((g_50 7) j9) + (((g_50 8) j9) * ((((nI j) - ((g_50 7) j9)) / ((g_50 8) j9)) + (nI 1)))))) 10 (upd (g_50 10) (n_7 3) (nI 0))) 11 = g_50 11 := by rw [va_up_ne _ _ (by decide), va_up_ne _ _ (by decide)]
            have qg_12 : (va_up (va_up g_50 7 (upd (g_50 7) j9 (((g_50 7) j9) + (((g_50 8) j9) * ((((nI j) - ((g_50 7) j9)) / ((g_50 8) j9)) + (nI 1)))))) 10 (upd (g_50 10) (n_7 3) (nI 0))) 12 = g_50 12 := by rw [va_up_ne _ _ (by decide), va_up_ne _ _ (by decide)]
            have qg_13 : (va_up (va_up g_50 7 (upd (g_50 7) j9 (((g_50 7) j9) + (((g_50 8) j9) * ((((nI j) - ((g_50 7) j9)) / ((g_50 8) j9)) + (nI 1)))))) 10 (upd (g_50 10) (n_7 3) (nI 0))) 13 = g_50 13 := by rw [va_up_ne _ _ (by decide), va_up_ne _ _ (by decide)]
            have qg_14 : (va_up (va_up g_50 7 (upd (g_50 7) j9 (((g_50 7) j9) + (((g_50 8) j9) * ((((nI j) - ((g_50 7) j9)) / ((g_50 8) j9)) + (nI 1)))))) 10 (upd (g_50 10) (n_7 3) (nI 0))) 14 = g_50 14 := by rw [va_up_ne _ _ (by decide), va_up_ne _ _ (by decide)]
            have qg_15 : (va_up (va_up g_50 7 (upd (g_50 7) j9 (((g_50 7) j9) + (((g_50 8) j9) * ((((nI j) - ((g_50 7) j9)) / ((g_50 8) j9)) + (nI 1)))))) 10 (upd (g_50 10) (n_7 3) (nI 0))) 15 = g_50 15 := by rw [va_up_ne _ _ (by decide), va_up_ne _ _ (by decide)]
            have qg_16 : (va_up (va_up g_50 7 (upd (g_50 7) j9 (((g_50 7) j9) + (((g_50 8) j9) * ((((nI j) - ((g_50 7) j9)) / ((g_50 8) j9)) + (nI 1)))))) 10 (upd (g_50 10) (n_7 3) (nI 0))) 16 = g_50 16 := by rw [va_up_ne _ _ (by decide), va_up_ne _ _ (by decide)]
            have hRk : RepM ca ad (va_up n_7 3 ((n_7 3) + 1)) (va_up (va_up g_50 7 (upd (g_50 7) j9 (((g_50 7) j9) + (((g_50 8) j9) * ((((nI j) - ((g_50 7) j9)) / ((g_50 8) j9)) + (nI 1)))))) 10 (upd (g_50 10) (n_7 3) (nI 0))) z_47 zn_48 tb f_54 := ⟨(by rw [qn_7, qn_0, qn_1, qn_2, qn_3, qn_4, qn_5, qg_13]; exact c_302),
                  (by rw [qg_0]; exact c_303),
                  (by rw [qg_1]; exact c_304),
                  (by rw [qg_2]; exact c_305),
                  (by rw [qg_3]; exact c_306),
                  (by rw [qg_4]; exact c_307),
                  (by rw [qg_5]; exact c_308),
                  (by rw [qg_6]; exact c_309),
                  (by rw [qg_7]; exact c_310),
                  (by rw [qg_8]; exact c_311),
                  (by rw [qg_9]; exact c_312),
                  (by rw [qg_10]; exact c_313),
                  (by rw [qg_11]; exact c_314),
                  (by rw [qg_12]; exact c_315),
                  (by rw [qg_14]; exact c_316),
                  (by rw [qg_15]; exact c_317),
                  (by rw [qg_16]; exact c_318),
                  c_319,
                  c_320,
                  c_321,
                  c_322,
                  c_323,
                  c_324,
                  c_325, hzn⟩
            have hfr : ∀ y, (y < 302 ∨ 326 ≤ y) → f_54 y = f y := (fun y hy => by rw [ef_54, va_up_ne _ _ (by omega), ef_52, va_up_ne _ _ (by omega), ef_51, va_up_ne _ _ (by omega)]; exact hfr y hy)
            have hRk : RepM ca ad ((mdS n g (nI j) (k + 1)).1) ((mdS n g (nI j) (k + 1)).2) z_47 zn_48 tb f_54 := by rw [mdS_some (n := n) (g := g) (y := nI j) (k := k) (j := j9) (by rw [← eg_8, ← d2]; exact ej9), ← en_7, ← eg_8]; unfold mdStep; rw [← eN, ← eC, show mfitI (mdG1 n_7 g_8 j9) j9 = _ from q3]; exact hRk
            exact ih_36 (k + 1) _ _ _ _ _ _ (by omega) (by omega) (by rw [mdS_some (n := n) (g := g) (y := nI j) (k := k) (j := j9) (by rw [← eg_8, ← d2]; exact ej9), mdStep_3, hk3]) hRk hfr hw (lv_sub hl [1, 2] rfl)
  refine lv_aload_n hx hb dX6_due_0 rfl (lv_at hl 0 rfl) ?_
  refine lv_iconst (v := nI 0) hx hb dX6_due_1 (by decide) ?_
  refine x_put (ci := 7) (C := RX6) (T := TX6) (n := 32) (ref := RX6) (fs' := mO ad 0 (n 0) (n 1) (n 2) (g 13 0) (n 3) (n 4) (n 5) zn) hx hb hts hin_7 tyX6 tyX6_ok nmX6 hown hK dd hw 302 (by omega) c_302 rfl 0 (by decide) hf_160 (fun _ h => h) rfl rfl rfl (Nat.le_of_ble_eq_true rfl) rfl dX6_due_2 (fun H locs hw => ?_)
  obtain ⟨f_55, ef_55⟩ : ∃ z, z = va_up f 302 (.inr (7, mO ad 0 (n 0) (n 1) (n 2) (g 13 0) (n 3) (n 4) (n 5) zn)) := ⟨_, rfl⟩
  have hw : xw D vwCl N ad B s.heap f_55 H locs := by rw [ef_55]; exact hw
  have c_302 : f_55 302 = .inr (7, mO ad 0 (n 0) (n 1) (n 2) (g 13 0) (n 3) (n 4) (n 5) zn) := va_up_of ef_55
  refine lv_iload_n hx hb dX6_due_5 rfl (lv_at hl 1 rfl) ?_
  refine x_Si (As := [.int (nI j)]) (rest := []) ⟨hx, hb, hml, hown, hts⟩ (k_X6_isDay_yes l D ca N ad B tR tK f_55 dd j   (by omega)) (va_cwS 1 hts gX6_due_X6_isDay rfl rfl rfl (by decide +kernel) ⟨Nat.le_of_ble_eq_true rfl, Nat.le_of_ble_eq_true rfl⟩) hK hE hB hw rfl rfl hl.1 (Nat.le_of_ble_eq_true rfl) ⟨Nat.zero_le _, Nat.zero_le _⟩ dX6_due_6 (fun r_57 f_56 H locs hp hw => ?_)
  obtain ⟨er, eu⟩ := hp
  rw [← er]
  rw [← eu] at hw
  refine lv_if_ne (tgt := 15) hx hb dX6_due_9 (by decide) (fun _ => ?_) (fun h => absurd h (by decide))
  refine lv_iload_n hx hb dX6_due_15 rfl (lv_at hl 1 rfl) ?_
  refine lv_aload_n hx hb dX6_due_16 rfl (lv_at hl 0 rfl) ?_
  refine x_get (ci := 7) (C := RX6) (T := TX6) (n := 32) (ref := RX6) hx hb hts hin_7 hown hK hw 302 (by omega) c_302 rfl 13 (by decide) hf_38 (fun _ h => h) rfl dX6_due_17 ?_
  refine lv_icmp_ge (tgt := 26) hx hb dX6_due_20 (by decide) (fun hc_20 => ?_) (fun hc_20 => ?_)
  · refine lv_aload_n hx hb dX6_due_26 rfl (lv_at hl 0 rfl) ?_
    refine lv_iload_n hx hb dX6_due_27 rfl (lv_at hl 1 rfl) ?_
    refine x_put (ci := 7) (C := RX6) (T := TX6) (n := 32) (ref := RX6) (fs' := mO ad 0 (n 0) (n 1) (n 2) (nI j) (n 3) (n 4) (n 5) zn) hx hb hts hin_7 tyX6 tyX6_ok nmX6 hown hK dd hw 302 (by omega) c_302 rfl 13 (by decide) hf_38 (fun _ h => h) rfl rfl rfl (Nat.le_of_ble_eq_true rfl) rfl dX6_due_28 (fun H locs hw => ?_)
    obtain ⟨f_58, ef_58⟩ : ∃ z, z = va_up f_55 302 (.inr (7, mO ad 0 (n 0) (n 1) (n 2) (nI j) (n 3) (n 4) (n 5) zn)) := ⟨_, rfl⟩
    have hw : xw D vwCl N ad B s.heap f_58 H locs := by rw [ef_58]; exact hw
    have c_302 : f_58 302 = .inr (7, mO ad 0 (n 0) (n 1) (n 2) (nI j) (n 3) (n 4) (n 5) zn) := va_up_of ef_58
    refine lv_aload_n hx hb dX6_due_31 rfl (lv_at hl 0 rfl) ?_
    refine lv_iconst (v := nI 0) hx hb dX6_due_32 (by decide) ?_
    refine x_put (ci := 7) (C := RX6) (T := TX6) (n := 32) (ref := RX6) (fs' := mO ad 0 (n 0) (n 1) (n 2) (nI j) 0 (n 4) (n 5) zn) hx hb hts hin_7 tyX6 tyX6_ok nmX6 hown hK dd hw 302 (by omega) c_302 rfl 14 (by decide) hf_238 (fun _ h => h) rfl rfl rfl (Nat.le_of_ble_eq_true rfl) rfl dX6_due_33 (fun H locs hw => ?_)
    obtain ⟨f_59, ef_59⟩ : ∃ z, z = va_up f_58 302 (.inr (7, mO ad 0 (n 0) (n 1) (n 2) (nI j) 0 (n 4) (n 5) zn)) := ⟨_, rfl⟩
    have hw : xw D vwCl N ad B s.heap f_59 H locs := by rw [ef_59]; exact hw
    have c_302 : f_59 302 = .inr (7, mO ad 0 (n 0) (n 1) (n 2) (nI j) 0 (n 4) (n 5) zn) := va_up_of ef_59
    have c_303 : f_59 303 = ai (ca 1) 200 (g 0) := by rw [ef_59, va_up_ne _ _ (by decide), ef_58, va_up_ne _ _ (by decide), ef_55, va_up_ne _ _ (by decide)]; exact c_303
    have c_304 : f_59 304 = ai (ca 1) 4000 (g 1) := by rw [ef_59, va_up_ne _ _ (by decide), ef_58, va_up_ne _ _ (by decide), ef_55, va_up_ne _ _ (by decide)]; exact c_304
    have c_305 : f_59 305 = ai (ca 0) 20 (g 2) := by rw [ef_59, va_up_ne _ _ (by decide), ef_58, va_up_ne _ _ (by decide), ef_55, va_up_ne _ _ (by decide)]; exact c_305
    have c_306 : f_59 306 = ai (ca 0) 20 (g 3) := by rw [ef_59, va_up_ne _ _ (by decide), ef_58, va_up_ne _ _ (by decide), ef_55, va_up_ne _ _ (by decide)]; exact c_306
    have c_307 : f_59 307 = ai (ca 1) 720 (g 4) := by rw [ef_59, va_up_ne _ _ (by decide), ef_58, va_up_ne _ _ (by decide), ef_55, va_up_ne _ _ (by decide)]; exact c_307
    have c_308 : f_59 308 = ai (ca 0) 20 (g 5) := by rw [ef_59, va_up_ne _ _ (by decide), ef_58, va_up_ne _ _ (by decide), ef_55, va_up_ne _ _ (by decide)]; exact c_308
    have c_309 : f_59 309 = ai (ca 0) 20 (g 6) := by rw [ef_59, va_up_ne _ _ (by decide), ef_58, va_up_ne _ _ (by decide), ef_55, va_up_ne _ _ (by decide)]; exact c_309
    have c_310 : f_59 310 = ai (ca 0) 20 (g 7) := by rw [ef_59, va_up_ne _ _ (by decide), ef_58, va_up_ne _ _ (by decide), ef_55, va_up_ne _ _ (by decide)]; exact c_310
    have c_311 : f_59 311 = ai (ca 0) 20 (g 8) := by rw [ef_59, va_up_ne _ _ (by decide), ef_58, va_up_ne _ _ (by decide), ef_55, va_up_ne _ _ (by decide)]; exact c_311
    have c_312 : f_59 312 = ai (ca 0) 20 (g 9) := by rw [ef_59, va_up_ne _ _ (by decide), ef_58, va_up_ne _ _ (by decide), ef_55, va_up_ne _ _ (by decide)]; exact c_312
    have c_313 : f_59 313 = ai (ca 2) 20 (g 10) := by rw [ef_59, va_up_ne _ _ (by decide), ef_58, va_up_ne _ _ (by decide), ef_55, va_up_ne _ _ (by decide)]; exact c_313
    have c_314 : f_59 314 = ai (ca 0) 200 (g 11) := by rw [ef_59, va_up_ne _ _ (by decide), ef_58, va_up_ne _ _ (by decide), ef_55, va_up_ne _ _ (by decide)]; exact c_314
    have c_315 : f_59 315 = ai (ca 0) 200 (g 12) := by rw [ef_59, va_up_ne _ _ (by decide), ef_58, va_up_ne _ _ (by decide), ef_55, va_up_ne _ _ (by decide)]; exact c_315
    have c_316 : f_59 316 = ai (ca 0) 200 (g 14) := by rw [ef_59, va_up_ne _ _ (by decide), ef_58, va_up_ne _ _ (by decide), ef_55, va_up_ne _ _ (by decide)]; exact c_316
    have c_317 : f_59 317 = ai (ca 1) 6400 (g 15) := by rw [ef_59, va_up_ne _ _ (by decide), ef_58, va_up_ne _ _ (by decide), ef_55, va_up_ne _ _ (by decide)]; exact c_317
    have c_318 : f_59 318 = ai (ca 1) 32 (g 16) := by rw [ef_59, va_up_ne _ _ (by decide), ef_58, va_up_ne _ _ (by decide), ef_55, va_up_ne _ _ (by decide)]; exact c_318
    have c_319 : f_59 319 = ai (ca 1) 320 (z 0) := by rw [ef_59, va_up_ne _ _ (by decide), ef_58, va_up_ne _ _ (by decide), ef_55, va_up_ne _ _ (by decide)]; exact c_319
    have c_320 : f_59 320 = ai (ca 1) 36 (z 1) := by rw [ef_59, va_up_ne _ _ (by decide), ef_58, va_up_ne _ _ (by decide), ef_55, va_up_ne _ _ (by decide)]; exact c_320
    have c_321 : f_59 321 = ai (ca 0) 64 (z 2) := by rw [ef_59, va_up_ne _ _ (by decide), ef_58, va_up_ne _ _ (by decide), ef_55, va_up_ne _ _ (by decide)]; exact c_321
    have c_322 : f_59 322 = ai (ca 0) 8 (z 3) := by rw [ef_59, va_up_ne _ _ (by decide), ef_58, va_up_ne _ _ (by decide), ef_55, va_up_ne _ _ (by decide)]; exact c_322
    have c_323 : f_59 323 = ai (ca 0) 8 (z 4) := by rw [ef_59, va_up_ne _ _ (by decide), ef_58, va_up_ne _ _ (by decide), ef_55, va_up_ne _ _ (by decide)]; exact c_323
    have c_324 : f_59 324 = ai (ca 0) 8 shR := by rw [ef_59, va_up_ne _ _ (by decide), ef_58, va_up_ne _ _ (by decide), ef_55, va_up_ne _ _ (by decide)]; exact c_324
    have c_325 : f_59 325 = ai (ca 0) 64 shK := by rw [ef_59, va_up_ne _ _ (by decide), ef_58, va_up_ne _ _ (by decide), ef_55, va_up_ne _ _ (by decide)]; exact c_325
    have qn_0 : (va_up (va_up n 7 0) 3 0) 0 = n 0 := by rw [va_up_ne _ _ (by decide), va_up_ne _ _ (by decide)]
    have qn_1 : (va_up (va_up n 7 0) 3 0) 1 = n 1 := by rw [va_up_ne _ _ (by decide), va_up_ne _ _ (by decide)]
    have qn_2 : (va_up (va_up n 7 0) 3 0) 2 = n 2 := by rw [va_up_ne _ _ (by decide), va_up_ne _ _ (by decide)]
    have qn_3 : (va_up (va_up n 7 0) 3 0) 3 = 0 := by rw [va_up_self]
    have qn_4 : (va_up (va_up n 7 0) 3 0) 4 = n 4 := by rw [va_up_ne _ _ (by decide), va_up_ne _ _ (by decide)]
    have qn_5 : (va_up (va_up n 7 0) 3 0) 5 = n 5 := by rw [va_up_ne _ _ (by decide), va_up_ne _ _ (by decide)]
    have qn_6 : (va_up (va_up n 7 0) 3 0) 6 = n 6 := by rw [va_up_ne _ _ (by decide), va_up_ne _ _ (by decide)]
    have qn_7 : (va_up (va_up n 7 0) 3 0) 7 = 0 := by rw [va_up_ne _ _ (by decide), va_up_self]
    have qg_0 : (va_up g 13 (upd (g 13) 0 (nI j))) 0 = g 0 := by rw [va_up_ne _ _ (by decide)]
    have qg_1 : (va_up g 13 (upd (g 13) 0 (nI j))) 1 = g 1 := by rw [va_up_ne _ _ (by decide)]
    have qg_2 : (va_up g 13 (upd (g 13) 0 (nI j))) 2 = g 2 := by rw [va_up_ne _ _ (by decide)]
    have qg_3 : (va_up g 13 (upd (g 13) 0 (nI j))) 3 = g 3 := by rw [va_up_ne _ _ (by decide)]
    have qg_4 : (va_up g 13 (upd (g 13) 0 (nI j))) 4 = g 4 := by rw [va_up_ne _ _ (by decide)]
    have qg_5 : (va_up g 13 (upd (g 13) 0 (nI j))) 5 = g 5 := by rw [va_up_ne _ _ (by decide)]
    have qg_6 : (va_up g 13 (upd (g 13) 0 (nI j))) 6 = g 6 := by rw [va_up_ne _ _ (by decide)]
    have qg_7 : (va_up g 13 (upd (g 13) 0 (nI j))) 7 = g 7 := by rw [va_up_ne _ _ (by decide)]
    have qg_8 : (va_up g 13 (upd (g 13) 0 (nI j))) 8 = g 8 := by rw [va_up_ne _ _ (by decide)]
    have qg_9 : (va_up g 13 (upd (g 13) 0 (nI j))) 9 = g 9 := by rw [va_up_ne _ _ (by decide)]
    have qg_10 : (va_up g 13 (upd (g 13) 0 (nI j))) 10 = g 10 := by rw [va_up_ne _ _ (by decide)]
    have qg_11 : (va_up g 13 (upd (g 13) 0 (nI j))) 11 = g 11 := by rw [va_up_ne _ _ (by decide)]
    have qg_12 : (va_up g 13 (upd (g 13) 0 (nI j))) 12 = g 12 := by rw [va_up_ne _ _ (by decide)]
    have qg_13 : (va_up g 13 (upd (g 13) 0 (nI j))) 13 = upd (g 13) 0 (nI j) := by rw [va_up_self]
    have qg_14 : (va_up g 13 (upd (g 13) 0 (nI j))) 14 = g 14 := by rw [va_up_ne _ _ (by decide)]
    have qg_15 : (va_up g 13 (upd (g 13) 0 (nI j))) 15 = g 15 := by rw [va_up_ne _ _ (by decide)]
    have qg_16 : (va_up g 13 (upd (g 13) 0 (nI j))) 16 = g 16 := by rw [va_up_ne _ _ (by decide)]
    have hRk : RepM ca ad (va_up (va_up n 7 0) 3 0) (va_up g 13 (upd (g 13) 0 (nI j))) z zn tb f_59 := ⟨(by rw [qn_7, qn_0, qn_1, qn_2, qn_3, qn_4, qn_5, qg_13, pk_us]; exact c_302),
          (by rw [qg_0]; exact c_303),
          (by rw [qg_1]; exact c_304),
          (by rw [qg_2]; exact c_305),
          (by rw [qg_3]; exact c_306),
          (by rw [qg_4]; exact c_307),
          (by rw [qg_5]; exact c_308),
          (by rw [qg_6]; exact c_309),
          (by rw [qg_7]; exact c_310),
          (by rw [qg_8]; exact c_311),
          (by rw [qg_9]; exact c_312),
          (by rw [qg_10]; exact c_313),
          (by rw [qg_11]; exact c_314),
          (by rw [qg_12]; exact c_315),
          (by rw [qg_14]; exact c_316),
          (by rw [qg_15]; exact c_317),
          (by rw [qg_16]; exact c_318),
          c_319,
          c_320,
          c_321,
          c_322,
          c_323,
          c_324,
          c_325, hzn⟩
    have hfr : ∀ y, (y < 302 ∨ 326 ≤ y) → f_59 y = f y := (fun y hy => by rw [ef_59, va_up_ne _ _ (by omega), ef_58, va_up_ne _ _ (by omega), ef_55, va_up_ne _ _ (by omega)])
    have hRk : RepM ca ad ((mdS n g (nI j) 0).1) ((mdS n g (nI j) 0).2) z zn tb f_59 := by exact hRk
    exact P_36 ((n 0 + 1)) 0 _ _ _ _ _ _ (by omega) (by omega) rfl hRk hfr hw (lv_sub hl [0, 1] rfl)
  · exact absurd (Int32.not_le.mp hc_20) ho
