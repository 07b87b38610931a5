/-! ===== the reference: checks, files ===== -/
/-- the bytes of file i (zz of them) have all digests of file j -/
def mFit (g : Nat → Nat → Int32) (i j zz : Nat) : Prop := hasM (g 4) j (sha zz (fun x => g 1 (200 * i + x) &&& nI 255)) (crM (fun x => g 1 (200 * i + x)) zz ^^^ (-1)) (g 3 j)
def cpF (r md : Nat → Int32) (s k : Nat) : Nat → Int32 := fun x => if s ≤ x ∧ x < s + k then (md (x - s)).toInt8.toInt32 else r x
theorem cpF_0 (r md : Nat → Int32) (s : Nat) : cpF r md s 0 = r := by
  funext x
  exact if_neg (by omega)
theorem cpF_s (r md : Nat → Int32) (s k : Nat) : upd (cpF r md s k) (s + k) (md k).toInt8.toInt32 = cpF r md s (k + 1) := by
  funext x
  by_cases e : x = s + k
  · subst e
    rw [pk_us]
    unfold cpF
    rw [if_pos (by omega), Nat.add_sub_cancel_left]
  · rw [pk_un e]
    unfold cpF
    by_cases h : s ≤ x ∧ x < s + k
    · rw [if_pos h, if_pos (by omega)]
    · rw [if_neg h, if_neg (by omega)]
theorem cpF_out {r md : Nat → Int32} {s k x : Nat} (h : x < s ∨ s + k ≤ x) : cpF r md s k x = r x := if_neg (by omega)
noncomputable def lwM (du : Nat → Int32) (y : Int32) : Nat → Option Nat
  | 0 => none
  | i + 1 => match lwM du y i with
    | none => (if du i < 0 ∨ y < du i then none else some i)
    | some j => (if du i < 0 ∨ y < du i ∨ du j ≤ du i then some j else some i)
theorem lwM_lt (du : Nat → Int32) (y : Int32) : ∀ i j, lwM du y i = some j → j < i := by
  intro i
  induction i with
  | zero => intro j h; cases h
  | succ i ih =>
    intro j h
    unfold lwM at h
    cases e : lwM du y i with
    | none =>
      rw [e] at h
      by_cases h1 : du i < 0 ∨ y < du i
      · simp only [if_pos h1] at h; cases h
      · simp only [if_neg h1] at h; cases h; omega
    | some k =>
      rw [e] at h
      have hk := ih k e
      by_cases h1 : du i < 0 ∨ y < du i ∨ du k ≤ du i
      · simp only [if_pos h1] at h; cases h; omega
      · simp only [if_neg h1] at h; cases h; omega
theorem lwM_no {du : Nat → Int32} {y : Int32} {i : Nat} (h : ¬ (¬ du i < 0 ∧ ¬ y < du i)) : lwM du y (i + 1) = lwM du y i := by
  have h2 : du i < 0 ∨ y < du i := Classical.byContradiction fun q => h ⟨fun z => q (Or.inl z), fun z => q (Or.inr z)⟩
  show (match lwM du y i with | none => _ | some j => _) = _
  cases e : lwM du y i with
  | none => exact if_pos h2
  | some j => exact if_pos (h2.elim Or.inl (fun q => Or.inr (Or.inl q)))
theorem lwM_first {du : Nat → Int32} {y : Int32} {i : Nat} (hi : i ≤ 20) (h : ¬ du i < 0 ∧ ¬ y < du i) (e : oI (lwM du y i) = -1) : lwM du y (i + 1) = some i := by
  have e1 := oI_none e (fun j hj => by have := lwM_lt du y i j hj; omega)
  show (match lwM du y i with | none => _ | some j => _) = _
  rw [e1]
  exact if_neg (fun z => z.elim h.1 h.2)
theorem lwM_less {du : Nat → Int32} {y : Int32} {i j : Nat} (h : ¬ du i < 0 ∧ ¬ y < du i) (e : lwM du y i = some j) (hd : ¬ du j ≤ du i) : lwM du y (i + 1) = some i := by
  show (match lwM du y i with | none => _ | some j => _) = _
  rw [e]
  exact if_neg (fun z => z.elim h.1 (fun z => z.elim h.2 hd))
theorem lwM_keep {du : Nat → Int32} {y : Int32} {i j : Nat} (e : lwM du y i = some j) (hd : du j ≤ du i) : lwM du y (i + 1) = lwM du y i := by
  show (match lwM du y i with | none => _ | some j => _) = _
  rw [e]
  exact if_pos (Or.inr (Or.inr hd))

theorem upd_id (g : Nat → Int32) (i j : Nat) : upd g i (g i) j = g j := by
  by_cases h : j = i
  · subst h; exact pk_us
  · exact pk_un h

abbrev rmX6_check : Room := { frames := 6, cells := 0, slots := 0, locals := 138 }

set_option maxHeartbeats 4000000 in
set_option maxRecDepth 100000 in
theorem k_X6_check_fit (l : Launch) (D : va_G) (ca : Nat → ClassId) (N : Nat) (ad : Nat → Nat) (B tR tK : Nat) (f : Nat → va_E) (dd : xD N ad B) (hN : 326 ≤ N) (n : Nat → Nat) (g : Nat → Nat → Int32) (z : Nat → Nat → Int32) (zn : Nat) (tb : Nat → Int32) (hR : RepM ca ad n g z zn tb f) (i : Nat) (y : Int32) (zz : Nat) (hi : i < 20) (hz : g 2 i = nI zz) (hz2 : zz ≤ 200) (hr9 : n 4 < 200) (hf : mFit g i i zz) : xMi l yX6_check wsX6_check rmX6_check [.ref (ad 302), .int (nI i), .int y] D ca N ad B tR tK f (fun r u => nI 1 = r ∧ ∃ (z1 : Nat → Nat → Int32) (zn1 : Nat), RepM ca ad (va_up n 4 ((n 4) + 1)) (va_up (va_up (va_up (va_up (va_up g 5 (upd (g 5) i y)) 11 (upd (g 11) (n 4) (nI 1))) 12 (upd (g 12) (n 4) (nI i))) 14 (upd (g 14) (n 4) y)) 15 (rowB (g 15) (rowS (g 15) (n 4) (nI 1) (nI i) y) (n 4))) z1 zn1 tb u ∧ ∀ y, (y < 302 ∨ 326 ≤ y) → u y = f y) := by
  refine x_open (cc := cX6_check) (maxL := 4) (ret := (some .boolean)) (by decide) rfl (Nat.le_of_ble_eq_true rfl) ?_
  intro p e s m below meth c ls hx hb hml hown hts hr hlocks hnm hB hK hE hw hl
  have hown : s.vm.findClass RX6 = some m.cls := hown
  have hl : lv_has ls 4 [(0, .ref (ad 302)), (1, .int (nI i)), (2, .int y)] := hl
  obtain ⟨c_302, c_303, c_304, c_305, c_306, c_307, c_308, c_309, c_310, c_311, c_312, c_313, c_314, c_315, c_316, c_317, c_318, c_319, c_320, c_321, c_322, c_323, c_324, c_325, hzn⟩ := hR
  have hin_7 : ∀ w ∈ u_ws RX6 TX6 32, w ∈ wsX6_check := by decide +kernel
  have hf_26 := hts (.fieldLink RX6 26 "FixityRowsModel" "fitted" "[I") (by decide +kernel)
  have b_302 := c_302
  have b_303 := c_303
  have b_304 := c_304
  have b_305 := c_305
  have b_306 := c_306
  have b_307 := c_307
  have b_308 := c_308
  have b_309 := c_309
  have b_310 := c_310
  have b_311 := c_311
  have b_312 := c_312
  have b_313 := c_313
  have b_314 := c_314
  have b_315 := c_315
  have b_316 := c_316
  have b_317 := c_317
  have b_318 := c_318
  have b_319 := c_319
  have b_320 := c_320
  have b_321 := c_321
  have b_322 := c_322
  have b_323 := c_323
  have b_324 := c_324
  have b_325 := c_325
  refine lv_aload_n hx hb dX6_check_0 rfl (lv_at hl 0 rfl) ?_
  refine lv_iload_n hx hb dX6_check_1 rfl (lv_at hl 1 rfl) ?_
  refine x_Vi (q := 302) (As := [.int (nI i)]) (rest := []) ⟨hx, hb, hml, hown, hts⟩ (k_X6_fits l D ca N ad B tR tK f dd (n 7) (n 0) (n 1) (n 2) (g 13 0) (n 3) (n 4) (n 5) zn (g 3) (g 4) (z 0) (z 1) (z 2) (z 3) (z 4) (g 1) (g 2) i zz c_302 c_306 c_307 c_319 c_320 c_321 c_322 c_323 c_324 c_325 c_304 c_305  (by omega) (by omega) hz (by omega)) (cwV 1 hts gX6_check_X6_fits rfl rfl rfl (by decide +kernel) ⟨Nat.le_of_ble_eq_true rfl, Nat.le_of_ble_eq_true rfl⟩) hK hE hB hw (by omega) c_302 rfl rfl rfl rfl hl.1 (Nat.le_of_ble_eq_true rfl) ⟨Nat.zero_le _, Nat.zero_le _⟩ dX6_check_2 (fun r_2 f_1 H locs hp hw => ?_)
  obtain ⟨b1_3, w1_4, v1_5, h1_6, m1_7, hq_8, er, eu⟩ := hp
  rw [← er]
  have ef_1 : f_1 = va_up (va_up (va_up (va_up (va_up (va_up f 302 (.inr (7, mO ad (n 7) (n 0) (n 1) (n 2) (g 13 0) (n 3) (n 4) (n 5) zz))) 319 (ai (ca 1) 320 b1_3)) 321 (ai (ca 0) 64 w1_4)) 323 (ai (ca 0) 8 v1_5)) 322 (ai (ca 0) 8 h1_6)) 320 (ai (ca 1) 36 m1_7) := eu
  have c_302 : f_1 302 = .inr (7, mO ad (n 7) (n 0) (n 1) (n 2) (g 13 0) (n 3) (n 4) (n 5) zz) := by rw [ef_1, va_up_ne _ _ (by decide), va_up_ne _ _ (by decide), va_up_ne _ _ (by decide), va_up_ne _ _ (by decide), va_up_ne _ _ (by decide), va_up_self]
  have c_319 : f_1 319 = ai (ca 1) 320 b1_3 := by rw [ef_1, va_up_ne _ _ (by decide), va_up_ne _ _ (by decide), va_up_ne _ _ (by decide), va_up_ne _ _ (by decide), va_up_self]
  have c_321 : f_1 321 = ai (ca 0) 64 w1_4 := by rw [ef_1, va_up_ne _ _ (by decide), va_up_ne _ _ (by decide), va_up_ne _ _ (by decide), va_up_self]
  have c_323 : f_1 323 = ai (ca 0) 8 v1_5 := by rw [ef_1, va_up_ne _ _ (by decide), va_up_ne _ _ (by decide), va_up_self]
  have c_322 : f_1 322 = ai (ca 0) 8 h1_6 := by rw [ef_1, va_up_ne _ _ (by decide), va_up_self]
  have c_320 : f_1 320 = ai (ca 1) 36 m1_7 := by rw [ef_1, va_up_self]
  rw [bI_t (show hasM (g 4) i (sha zz (fun x => g 1 (200 * i + x) &&& nI 255)) (crM (fun x => g 1 (200 * i + x)) zz ^^^ (-1)) (g 3 i) from hf)]
  refine lv_istore_n (lv' := [(3, .int (nI 1)), (0, .ref (ad 302)), (1, .int (nI i)), (2, .int y)]) hx hb dX6_check_5 rfl hl (by decide) rfl (fun ls hl => ?_)
  refine lv_aload_n hx hb dX6_check_6 rfl (lv_at hl 1 rfl) ?_
  refine x_get (ci := 7) (C := RX6) (T := TX6) (n := 32) (ref := RX6) hx hb hts hin_7 hown hK hw 302 (by omega) c_302 rfl 9 (by decide) hf_26 (fun _ h => h) rfl dX6_check_7 ?_
  refine lv_iload_n hx hb dX6_check_10 rfl (lv_at hl 2 rfl) ?_
  refine lv_iload_n hx hb dX6_check_11 rfl (lv_at hl 0 rfl) ?_
  refine lv_if_eq (tgt := 19) hx hb dX6_check_12 (by decide) (fun h => absurd h (by decide)) (fun _ => ?_)
  refine lv_iload_n hx hb dX6_check_15 rfl (lv_at hl 3 rfl) ?_
  refine lv_goto (tgt := 25) hx hb dX6_check_16 (by decide) ?_
  have c_308 : f_1 308 = ai (ca 0) 20 (g 5) := by rw [ef_1, va_up_ne _ _ (by decide), va_up_ne _ _ (by decide), va_up_ne _ _ (by decide), va_up_ne _ _ (by decide), va_up_ne _ _ (by decide), va_up_ne _ _ (by decide)]; exact c_308
  refine x_iast (j := i) hx hb hK dd hw 308 0 (by omega) c_308 rfl rfl (by omega) (by decide) dX6_check_25 (fun H locs hw => ?_)
  obtain ⟨f_9, ef_9⟩ : ∃ z, z = va_up f_1 308 (ai (ca 0) 20 (upd (g 5) i y)) := ⟨_, rfl⟩
  have hw : xw D vwCl N ad B s.heap f_9 H locs := by rw [ef_9]; exact hw
  have c_308 : f_9 308 = ai (ca 0) 20 (upd (g 5) i y) := va_up_of ef_9
  refine lv_aload_n hx hb dX6_check_26 rfl (lv_at hl 1 rfl) ?_
  refine lv_iload_n hx hb dX6_check_27 rfl (lv_at hl 0 rfl) ?_
  refine lv_if_eq (tgt := 35) hx hb dX6_check_28 (by decide) (fun h => absurd h (by decide)) (fun _ => ?_)
  refine lv_iconst (v := nI 1) hx hb dX6_check_31 (by decide) ?_
  refine lv_goto (tgt := 36) hx hb dX6_check_32 (by decide) ?_
  refine lv_iload_n hx hb dX6_check_36 rfl (lv_at hl 2 rfl) ?_
  refine lv_iload_n hx hb dX6_check_37 rfl (lv_at hl 3 rfl) ?_
  have c_302 : f_9 302 = .inr (7, mO ad (n 7) (n 0) (n 1) (n 2) (g 13 0) (n 3) (n 4) (n 5) zz) := by rw [ef_9, va_up_ne _ _ (by decide)]; exact c_302
  have c_314 : f_9 314 = ai (ca 0) 200 (g 11) := by rw [ef_9, va_up_ne _ _ (by decide), ef_1, va_up_ne _ _ (by decide), va_up_ne _ _ (by decide), va_up_ne _ _ (by decide), va_up_ne _ _ (by decide), va_up_ne _ _ (by decide), va_up_ne _ _ (by decide)]; exact c_314
  have c_315 : f_9 315 = ai (ca 0) 200 (g 12) := by rw [ef_9, va_up_ne _ _ (by decide), ef_1, va_up_ne _ _ (by decide), va_up_ne _ _ (by decide), va_up_ne _ _ (by decide), va_up_ne _ _ (by decide), va_up_ne _ _ (by decide), va_up_ne _ _ (by decide)]; exact c_315
  have c_316 : f_9 316 = ai (ca 0) 200 (g 14) := by rw [ef_9, va_up_ne _ _ (by decide), ef_1, va_up_ne _ _ (by decide), va_up_ne _ _ (by decide), va_up_ne _ _ (by decide), va_up_ne _ _ (by decide), va_up_ne _ _ (by decide), va_up_ne _ _ (by decide)]; exact c_316
  have c_317 : f_9 317 = ai (ca 1) 6400 (g 15) := by rw [ef_9, va_up_ne _ _ (by decide), ef_1, va_up_ne _ _ (by decide), va_up_ne _ _ (by decide), va_up_ne _ _ (by decide), va_up_ne _ _ (by decide), va_up_ne _ _ (by decide), va_up_ne _ _ (by decide)]; exact c_317
  have c_319 : f_9 319 = ai (ca 1) 320 b1_3 := by rw [ef_9, va_up_ne _ _ (by decide)]; exact c_319
  have c_320 : f_9 320 = ai (ca 1) 36 m1_7 := by rw [ef_9, va_up_ne _ _ (by decide)]; exact c_320
  have c_321 : f_9 321 = ai (ca 0) 64 w1_4 := by rw [ef_9, va_up_ne _ _ (by decide)]; exact c_321
  have c_322 : f_9 322 = ai (ca 0) 8 h1_6 := by rw [ef_9, va_up_ne _ _ (by decide)]; exact c_322
  have c_323 : f_9 323 = ai (ca 0) 8 v1_5 := by rw [ef_9, va_up_ne _ _ (by decide)]; exact c_323
  have c_324 : f_9 324 = ai (ca 0) 8 shR := by rw [ef_9, va_up_ne _ _ (by decide), ef_1, va_up_ne _ _ (by decide), va_up_ne _ _ (by decide), va_up_ne _ _ (by decide), va_up_ne _ _ (by decide), va_up_ne _ _ (by decide), va_up_ne _ _ (by decide)]; exact c_324
  have c_325 : f_9 325 = ai (ca 0) 64 shK := by rw [ef_9, va_up_ne _ _ (by decide), ef_1, va_up_ne _ _ (by decide), va_up_ne _ _ (by decide), va_up_ne _ _ (by decide), va_up_ne _ _ (by decide), va_up_ne _ _ (by decide), va_up_ne _ _ (by decide)]; exact c_325
  refine x_Vv (q := 302) (As := [.int (nI 1), .int (nI i), .int y]) (rest := []) ⟨hx, hb, hml, hown, hts⟩ (k_X6_enter_in l D ca N ad B tR tK f_9 dd (n 7) (n 0) (n 1) (n 2) (g 13 0) (n 3) (n 4) (n 5) zz (g 11) (g 12) (g 14) (g 15) b1_3 m1_7 w1_4 h1_6 v1_5 (nI 1) (nI i) y c_302 c_314 c_315 c_316 c_317 c_319 c_320 c_321 c_322 c_323 c_324 c_325  (by omega) (by omega)) (cwV 3 hts gX6_check_X6_enter rfl rfl rfl (by decide +kernel) ⟨Nat.le_of_ble_eq_true rfl, Nat.le_of_ble_eq_true rfl⟩) hK hE hB hw (by omega) c_302 rfl rfl rfl rfl hl.1 (Nat.le_of_ble_eq_true rfl) ⟨Nat.zero_le _, Nat.zero_le _⟩ dX6_check_38 (fun f_10 H locs hp hw => ?_)
  obtain ⟨b1_12, w1_13, v1_14, h1_15, eu⟩ := hp
  have ef_10 : f_10 = va_up (va_up (va_up (va_up (va_up (va_up (va_up (va_up (va_up (va_up f_9 314 (ai (ca 0) 200 (upd (g 11) (n 4) (nI 1)))) 315 (ai (ca 0) 200 (upd (g 12) (n 4) (nI i)))) 316 (ai (ca 0) 200 (upd (g 14) (n 4) y))) 302 (.inr (7, mO ad (n 7) (n 0) (n 1) (n 2) (g 13 0) (n 3) ((n 4) + 1) (n 5) 44))) 319 (ai (ca 1) 320 b1_12)) 321 (ai (ca 0) 64 w1_13)) 323 (ai (ca 0) 8 v1_14)) 322 (ai (ca 0) 8 h1_15)) 320 (ai (ca 1) 36 (mkf m1_7 (rowS (g 15) (n 4) (nI 1) (nI i) y) 32))) 317 (ai (ca 1) 6400 (rowB (g 15) (rowS (g 15) (n 4) (nI 1) (nI i) y) (n 4))) := eu
  have c_314 : f_10 314 = ai (ca 0) 200 (upd (g 11) (n 4) (nI 1)) := by rw [ef_10, va_up_ne _ _ (by decide), va_up_ne _ _ (by decide), va_up_ne _ _ (by decide), va_up_ne _ _ (by decide), va_up_ne _ _ (by decide), va_up_ne _ _ (by decide), va_up_ne _ _ (by decide), va_up_ne _ _ (by decide), va_up_ne _ _ (by decide), va_up_self]
  have c_315 : f_10 315 = ai (ca 0) 200 (upd (g 12) (n 4) (nI i)) := by rw [ef_10, va_up_ne _ _ (by decide), va_up_ne _ _ (by decide), va_up_ne _ _ (by decide), va_up_ne _ _ (by decide), va_up_ne _ _ (by decide), va_up_ne _ _ (by decide), va_up_ne _ _ (by decide), va_up_ne _ _ (by decide), va_up_self]
  have c_316 : f_10 316 = ai (ca 0) 200 (upd (g 14) (n 4) y) := by rw [ef_10, va_up_ne _ _ (by decide), va_up_ne _ _ (by decide), va_up_ne _ _ (by decide), va_up_ne _ _ (by decide), va_up_ne _ _ (by decide), va_up_ne _ _ (by decide), va_up_ne _ _ (by decide), va_up_self]
  have c_302 : f_10 302 = .inr (7, mO ad (n 7) (n 0) (n 1) (n 2) (g 13 0) (n 3) ((n 4) + 1) (n 5) 44) := by rw [ef_10, va_up_ne _ _ (by decide), va_up_ne _ _ (by decide), va_up_ne _ _ (by decide), va_up_ne _ _ (by decide), va_up_ne _ _ (by decide), va_up_ne _ _ (by decide), va_up_self]
  have c_319 : f_10 319 = ai (ca 1) 320 b1_12 := by rw [ef_10, va_up_ne _ _ (by decide), va_up_ne _ _ (by decide), va_up_ne _ _ (by decide), va_up_ne _ _ (by decide), va_up_ne _ _ (by decide), va_up_self]
  have c_321 : f_10 321 = ai (ca 0) 64 w1_13 := by rw [ef_10, va_up_ne _ _ (by decide), va_up_ne _ _ (by decide), va_up_ne _ _ (by decide), va_up_ne _ _ (by decide), va_up_self]
  have c_323 : f_10 323 = ai (ca 0) 8 v1_14 := by rw [ef_10, va_up_ne _ _ (by decide), va_up_ne _ _ (by decide), va_up_ne _ _ (by decide), va_up_self]
  have c_322 : f_10 322 = ai (ca 0) 8 h1_15 := by rw [ef_10, va_up_ne _ _ (by decide), va_up_ne _ _ (by decide), va_up_self]
  have c_320 : f_10 320 = ai (ca 1) 36 (mkf m1_7 (rowS (g 15) (n 4) (nI 1) (nI i) y) 32) := by rw [ef_10, va_up_ne _ _ (by decide), va_up_self]
  have c_317 : f_10 317 = ai (ca 1) 6400 (rowB (g 15) (rowS (g 15) (n 4) (nI 1) (nI i) y) (n 4)) := by rw [ef_10, va_up_self]
  refine lv_iload_n hx hb dX6_check_41 rfl (lv_at hl 0 rfl) ?_
  have c_303 : f_10 303 = ai (ca 1) 200 (g 0) := by rw [ef_10, va_up_ne _ _ (by decide), va_up_ne _ _ (by decide), va_up_ne _ _ (by decide), va_up_ne _ _ (by decide), va_up_ne _ _ (by decide), va_up_ne _ _ (by decide), va_up_ne _ _ (by decide), va_up_ne _ _ (by decide), va_up_ne _ _ (by decide), va_up_ne _ _ (by decide), ef_9, va_up_ne _ _ (by decide), ef_1, va_up_ne _ _ (by decide), va_up_ne _ _ (by decide), va_up_ne _ _ (by decide), va_up_ne _ _ (by decide), va_up_ne _ _ (by decide), va_up_ne _ _ (by decide)]; exact c_303
  have c_304 : f_10 304 = ai (ca 1) 4000 (g 1) := by rw [ef_10, va_up_ne _ _ (by decide), va_up_ne _ _ (by decide), va_up_ne _ _ (by decide), va_up_ne _ _ (by decide), va_up_ne _ _ (by decide), va_up_ne _ _ (by decide), va_up_ne _ _ (by decide), va_up_ne _ _ (by decide), va_up_ne _ _ (by decide), va_up_ne _ _ (by decide), ef_9, va_up_ne _ _ (by decide), ef_1, va_up_ne _ _ (by decide), va_up_ne _ _ (by decide), va_up_ne _ _ (by decide), va_up_ne _ _ (by decide), va_up_ne _ _ (by decide), va_up_ne _ _ (by decide)]; exact c_304
  have c_305 : f_10 305 = ai (ca 0) 20 (g 2) := by rw [ef_10, va_up_ne _ _ (by decide), va_up_ne _ _ (by decide), va_up_ne _ _ (by decide), va_up_ne _ _ (by decide), va_up_ne _ _ (by decide), va_up_ne _ _ (by decide), va_up_ne _ _ (by decide), va_up_ne _ _ (by decide), va_up_ne _ _ (by decide), va_up_ne _ _ (by decide), ef_9, va_up_ne _ _ (by decide), ef_1, va_up_ne _ _ (by decide), va_up_ne _ _ (by decide), va_up_ne _ _ (by decide), va_up_ne _ _ (by decide), va_up_ne _ _ (by decide), va_up_ne _ _ (by decide)]; exact c_305
  have c_306 : f_10 306 = ai (ca 0) 20 (g 3) := by rw [ef_10, va_up_ne _ _ (by decide), va_up_ne _ _ (by decide), va_up_ne _ _ (by decide), va_up_ne _ _ (by decide), va_up_ne _ _ (by decide), va_up_ne _ _ (by decide), va_up_ne _ _ (by decide), va_up_ne _ _ (by decide), va_up_ne _ _ (by decide), va_up_ne _ _ (by decide), ef_9, va_up_ne _ _ (by decide), ef_1, va_up_ne _ _ (by decide), va_up_ne _ _ (by decide), va_up_ne _ _ (by decide), va_up_ne _ _ (by decide), va_up_ne _ _ (by decide), va_up_ne _ _ (by decide)]; exact c_306
  have c_307 : f_10 307 = ai (ca 1) 720 (g 4) := by rw [ef_10, va_up_ne _ _ (by decide), va_up_ne _ _ (by decide), va_up_ne _ _ (by decide), va_up_ne _ _ (by decide), va_up_ne _ _ (by decide), va_up_ne _ _ (by decide), va_up_ne _ _ (by decide), va_up_ne _ _ (by decide), va_up_ne _ _ (by decide), va_up_ne _ _ (by decide), ef_9, va_up_ne _ _ (by decide), ef_1, va_up_ne _ _ (by decide), va_up_ne _ _ (by decide), va_up_ne _ _ (by decide), va_up_ne _ _ (by decide), va_up_ne _ _ (by decide), va_up_ne _ _ (by decide)]; exact c_307
  have c_308 : f_10 308 = ai (ca 0) 20 (upd (g 5) i y) := by rw [ef_10, va_up_ne _ _ (by decide), va_up_ne _ _ (by decide), va_up_ne _ _ (by decide), va_up_ne _ _ (by decide), va_up_ne _ _ (by decide), va_up_ne _ _ (by decide), va_up_ne _ _ (by decide), va_up_ne _ _ (by decide), va_up_ne _ _ (by decide), va_up_ne _ _ (by decide)]; exact c_308
  have c_309 : f_10 309 = ai (ca 0) 20 (g 6) := by rw [ef_10, va_up_ne _ _ (by decide), va_up_ne _ _ (by decide), va_up_ne _ _ (by decide), va_up_ne _ _ (by decide), va_up_ne _ _ (by decide), va_up_ne _ _ (by decide), va_up_ne _ _ (by decide), va_up_ne _ _ (by decide), va_up_ne _ _ (by decide), va_up_ne _ _ (by decide), ef_9, va_up_ne _ _ (by decide), ef_1, va_up_ne _ _ (by decide), va_up_ne _ _ (by decide), va_up_ne _ _ (by decide), va_up_ne _ _ (by decide), va_up_ne _ _ (by decide), va_up_ne _ _ (by decide)]; exact c_309
  have c_310 : f_10 310 = ai (ca 0) 20 (g 7) := by rw [ef_10, va_up_ne _ _ (by decide), va_up_ne _ _ (by decide), va_up_ne _ _ (by decide), va_up_ne _ _ (by decide), va_up_ne _ _ (by decide), va_up_ne _ _ (by decide), va_up_ne _ _ (by decide), va_up_ne _ _ (by decide), va_up_ne _ _ (by decide), va_up_ne _ _ (by decide), ef_9, va_up_ne _ _ (by decide), ef_1, va_up_ne _ _ (by decide), va_up_ne _ _ (by decide), va_up_ne _ _ (by decide), va_up_ne _ _ (by decide), va_up_ne _ _ (by decide), va_up_ne _ _ (by decide)]; exact c_310
  have c_311 : f_10 311 = ai (ca 0) 20 (g 8) := by rw [ef_10, va_up_ne _ _ (by decide), va_up_ne _ _ (by decide), va_up_ne _ _ (by decide), va_up_ne _ _ (by decide), va_up_ne _ _ (by decide), va_up_ne _ _ (by decide), va_up_ne _ _ (by decide), va_up_ne _ _ (by decide), va_up_ne _ _ (by decide), va_up_ne _ _ (by decide), ef_9, va_up_ne _ _ (by decide), ef_1, va_up_ne _ _ (by decide), va_up_ne _ _ (by decide), va_up_ne _ _ (by decide), va_up_ne _ _ (by decide), va_up_ne _ _ (by decide), va_up_ne _ _ (by decide)]; exact c_311
  have c_312 : f_10 312 = ai (ca 0) 20 (g 9) := by rw [ef_10, va_up_ne _ _ (by decide), va_up_ne _ _ (by decide), va_up_ne _ _ (by decide), va_up_ne _ _ (by decide), va_up_ne _ _ (by decide), va_up_ne _ _ (by decide), va_up_ne _ _ (by decide), va_up_ne _ _ (by decide), va_up_ne _ _ (by decide), va_up_ne _ _ (by decide), ef_9, va_up_ne _ _ (by decide), ef_1, va_up_ne _ _ (by decide), va_up_ne _ _ (by decide), va_up_ne _ _ (by decide), va_up_ne _ _ (by decide), va_up_ne _ _ (by decide), va_up_ne _ _ (by decide)]; exact c_312
  have c_313 : f_10 313 = ai (ca 2) 20 (g 10) := by rw [ef_10, va_up_ne _ _ (by decide), va_up_ne _ _ (by decide), va_up_ne _ _ (by decide), va_up_ne _ _ (by decide), va_up_ne _ _ (by decide), va_up_ne _ _ (by decide), va_up_ne _ _ (by decide), va_up_ne _ _ (by decide), va_up_ne _ _ (by decide), va_up_ne _ _ (by decide), ef_9, va_up_ne _ _ (by decide), ef_1, va_up_ne _ _ (by decide), va_up_ne _ _ (by decide), va_up_ne _ _ (by decide), va_up_ne _ _ (by decide), va_up_ne _ _ (by decide), va_up_ne _ _ (by decide)]; exact c_313
  have c_318 : f_10 318 = ai (ca 1) 32 (g 16) := by rw [ef_10, va_up_ne _ _ (by decide), va_up_ne _ _ (by decide), va_up_ne _ _ (by decide), va_up_ne _ _ (by decide), va_up_ne _ _ (by decide), va_up_ne _ _ (by decide), va_up_ne _ _ (by decide), va_up_ne _ _ (by decide), va_up_ne _ _ (by decide), va_up_ne _ _ (by decide), ef_9, va_up_ne _ _ (by decide), ef_1, va_up_ne _ _ (by decide), va_up_ne _ _ (by decide), va_up_ne _ _ (by decide), va_up_ne _ _ (by decide), va_up_ne _ _ (by decide), va_up_ne _ _ (by decide)]; exact c_318
  have c_324 : f_10 324 = ai (ca 0) 8 shR := by rw [ef_10, va_up_ne _ _ (by decide), va_up_ne _ _ (by decide), va_up_ne _ _ (by decide), va_up_ne _ _ (by decide), va_up_ne _ _ (by decide), va_up_ne _ _ (by decide), va_up_ne _ _ (by decide), va_up_ne _ _ (by decide), va_up_ne _ _ (by decide), va_up_ne _ _ (by decide)]; exact c_324
  have c_325 : f_10 325 = ai (ca 0) 64 shK := by rw [ef_10, va_up_ne _ _ (by decide), va_up_ne _ _ (by decide), va_up_ne _ _ (by decide), va_up_ne _ _ (by decide), va_up_ne _ _ (by decide), va_up_ne _ _ (by decide), va_up_ne _ _ (by decide), va_up_ne _ _ (by decide), va_up_ne _ _ (by decide), va_up_ne _ _ (by decide)]; exact c_325
  have qn_0 : (va_up n 4 ((n 4) + 1)) 0 = n 0 := by rw [va_up_ne _ _ (by decide)]
  have qn_1 : (va_up n 4 ((n 4) + 1)) 1 = n 1 := by rw [va_up_ne _ _ (by decide)]
  have qn_2 : (va_up n 4 ((n 4) + 1)) 2 = n 2 := by rw [va_up_ne _ _ (by decide)]
  have qn_3 : (va_up n 4 ((n 4) + 1)) 3 = n 3 := by rw [va_up_ne _ _ (by decide)]
  have qn_4 : (va_up n 4 ((n 4) + 1)) 4 = (n 4) + 1 := by rw [va_up_self]
  have qn_5 : (va_up n 4 ((n 4) + 1)) 5 = n 5 := by rw [va_up_ne _ _ (by decide)]
  have qn_6 : (va_up n 4 ((n 4) + 1)) 6 = n 6 := by rw [va_up_ne _ _ (by decide)]
  have qn_7 : (va_up n 4 ((n 4) + 1)) 7 = n 7 := by rw [va_up_ne _ _ (by decide)]
  have qg_0 : (va_up (va_up (va_up (va_up (va_up g 5 (upd (g 5) i y)) 11 (upd (g 11) (n 4) (nI 1))) 12 (upd (g 12) (n 4) (nI i))) 14 (upd (g 14) (n 4) y)) 15 (rowB (g 15) (rowS (g 15) (n 4) (nI 1) (nI i) y) (n 4))) 0 = g 0 := by rw [va_up_ne _ _ (by decide), va_up_ne _ _ (by decide), va_up_ne _ _ (by decide), va_up_ne _ _ (by decide), va_up_ne _ _ (by decide)]
  have qg_1 : (va_up (va_up (va_up (va_up (va_up g 5 (upd (g 5) i y)) 11 (upd (g 11) (n 4) (nI 1))) 12 (upd (g 12) (n 4) (nI i))) 14 (upd (g 14) (n 4) y)) 15 (rowB (g 15) (rowS (g 15) (n 4) (nI 1) (nI i) y) (n 4))) 1 = g 1 := by rw [va_up_ne _ _ (by decide), va_up_ne _ _ (by decide), va_up_ne _ _ (by decide), va_up_ne _ _ (by decide), va_up_ne _ _ (by decide)]
  have qg_2 : (va_up (va_up (va_up (va_up (va_up g 5 (upd (g 5) i y)) 11 (upd (g 11) (n 4) (nI 1))) 12 (upd (g 12) (n 4) (nI i))) 14 (upd (g 14) (n 4) y)) 15 (rowB (g 15) (rowS (g 15) (n 4) (nI 1) (nI i) y) (n 4))) 2 = g 2 := by rw [va_up_ne _ _ (by decide), va_up_ne _ _ (by decide), va_up_ne _ _ (by decide), va_up_ne _ _ (by decide), va_up_ne _ _ (by decide)]
  have qg_3 : (va_up (va_up (va_up (va_up (va_up g 5 (upd (g 5) i y)) 11 (upd (g 11) (n 4) (nI 1))) 12 (upd (g 12) (n 4) (nI i))) 14 (upd (g 14) (n 4) y)) 15 (rowB (g 15) (rowS (g 15) (n 4) (nI 1) (nI i) y) (n 4))) 3 = g 3 := by rw [va_up_ne _ _ (by decide), va_up_ne _ _ (by decide), va_up_ne _ _ (by decide), va_up_ne _ _ (by decide), va_up_ne _ _ (by decide)]
  have qg_4 : (va_up (va_up (va_up (va_up (va_up g 5 (upd (g 5) i y)) 11 (upd (g 11) (n 4) (nI 1))) 12 (upd (g 12) (n 4) (nI i))) 14 (upd (g 14) (n 4) y)) 15 (rowB (g 15) (rowS (g 15) (n 4) (nI 1) (nI i) y) (n 4))) 4 = g 4 := by rw [va_up_ne _ _ (by decide), va_up_ne _ _ (by decide), va_up_ne _ _ (by decide), va_up_ne _ _ (by decide), va_up_ne _ _ (by decide)]
  have qg_5 : (va_up (va_up (va_up (va_up (va_up g 5 (upd (g 5) i y)) 11 (upd (g 11) (n 4) (nI 1))) 12 (upd (g 12) (n 4) (nI i))) 14 (upd (g 14) (n 4) y)) 15 (rowB (g 15) (rowS (g 15) (n 4) (nI 1) (nI i) y) (n 4))) 5 = upd (g 5) i y := by rw [va_up_ne _ _ (by decide), va_up_ne _ _ (by decide), va_up_ne _ _ (by decide), va_up_ne _ _ (by decide), va_up_self]
  have qg_6 : (va_up (va_up (va_up (va_up (va_up g 5 (upd (g 5) i y)) 11 (upd (g 11) (n 4) (nI 1))) 12 (upd (g 12) (n 4) (nI i))) 14 (upd (g 14) (n 4) y)) 15 (rowB (g 15) (rowS (g 15) (n 4) (nI 1) (nI i) y) (n 4))) 6 = g 6 := by rw [va_up_ne _ _ (by decide), va_up_ne _ _ (by decide), va_up_ne _ _ (by decide), va_up_ne _ _ (by decide), va_up_ne _ _ (by decide)]
  have qg_7 : (va_up (va_up (va_up (va_up (va_up g 5 (upd (g 5) i y)) 11 (upd (g 11) (n 4) (nI 1))) 12 (upd (g 12) (n 4) (nI i))) 14 (upd (g 14) (n 4) y)) 15 (rowB (g 15) (rowS (g 15) (n 4) (nI 1) (nI i) y) (n 4))) 7 = g 7 := by rw [va_up_ne _ _ (by decide), va_up_ne _ _ (by decide), va_up_ne _ _ (by decide), va_up_ne _ _ (by decide), va_up_ne _ _ (by decide)]
  have qg_8 : (va_up (va_up (va_up (va_up (va_up g 5 (upd (g 5) i y)) 11 (upd (g 11) (n 4) (nI 1))) 12 (upd (g 12) (n 4) (nI i))) 14 (upd (g 14) (n 4) y)) 15 (rowB (g 15) (rowS (g 15) (n 4) (nI 1) (nI i) y) (n 4))) 8 = g 8 := by rw [va_up_ne _ _ (by decide), va_up_ne _ _ (by decide), va_up_ne _ _ (by decide), va_up_ne _ _ (by decide), va_up_ne _ _ (by decide)]
  have qg_9 : (va_up (va_up (va_up (va_up (va_up g 5 (upd (g 5) i y)) 11 (upd (g 11) (n 4) (nI 1))) 12 (upd (g 12) (n 4) (nI i))) 14 (upd (g 14) (n 4) y)) 15 (rowB (g 15) (rowS (g 15) (n 4) (nI 1) (nI i) y) (n 4))) 9 = g 9 := by rw [va_up_ne _ _ (by decide), va_up_ne _ _ (by decide), va_up_ne _ _ (by decide), va_up_ne _ _ (by decide), va_up_ne _ _ (by decide)]
  have qg_10 : (va_up (va_up (va_up (va_up (va_up g 5 (upd (g 5) i y)) 11 (upd (g 11) (n 4) (nI 1))) 12 (upd (g 12) (n 4) (nI i))) 14 (upd (g 14) (n 4) y)) 15 (rowB (g 15) (rowS (g 15) (n 4) (nI 1) (nI i) y) (n 4))) 10 = g 10 := by rw [va_up_ne _ _ (by decide), va_up_ne _ _ (by decide), va_up_ne _ _ (by decide), va_up_ne _ _ (by decide), va_up_ne _ _ (by decide)]
  have qg_11 : (va_up (va_up (va_up (va_up (va_up g 5 (upd (g 5) i y)) 11 (upd (g 11) (n 4) (nI 1))) 12 (upd (g 12) (n 4) (nI i))) 14 (upd (g 14) (n 4) y)) 15 (rowB (g 15) (rowS (g 15) (n 4) (nI 1) (nI i) y) (n 4))) 11 = upd (g 11) (n 4) (nI 1) := by rw [va_up_ne _ _ (by decide), va_up_ne _ _ (by decide), va_up_ne _ _ (by decide), va_up_self]
  have qg_12 : (va_up (va_up (va_up (va_up (va_up g 5 (upd (g 5) i y)) 11 (upd (g 11) (n 4) (nI 1))) 12 (upd (g 12) (n 4) (nI i))) 14 (upd (g 14) (n 4) y)) 15 (rowB (g 15) (rowS (g 15) (n 4) (nI 1) (nI i) y) (n 4))) 12 = upd (g 12) (n 4) (nI i) := by rw [va_up_ne _ _ (by decide), va_up_ne _ _ (by decide), va_up_self]
  have qg_13 : (va_up (va_up (va_up (va_up (va_up g 5 (upd (g 5) i y)) 11 (upd (g 11) (n 4) (nI 1))) 12 (upd (g 12) (n 4) (nI i))) 14 (upd (g 14) (n 4) y)) 15 (rowB (g 15) (rowS (g 15) (n 4) (nI 1) (nI i) y) (n 4))) 13 = g 13 := by rw [va_up_ne _ _ (by decide), va_up_ne _ _ (by decide), va_up_ne _ _ (by decide), va_up_ne _ _ (by decide), va_up_ne _ _ (by decide)]
  have qg_14 : (va_up (va_up (va_up (va_up (va_up g 5 (upd (g 5) i y)) 11 (upd (g 11) (n 4) (nI 1))) 12 (upd (g 12) (n 4) (nI i))) 14 (upd (g 14) (n 4) y)) 15 (rowB (g 15) (rowS (g 15) (n 4) (nI 1) (nI i) y) (n 4))) 14 = upd (g 14) (n 4) y := by rw [va_up_ne _ _ (by decide), va_up_self]
  have qg_15 : (va_up (va_up (va_up (va_up (va_up g 5 (upd (g 5) i y)) 11 (upd (g 11) (n 4) (nI 1))) 12 (upd (g 12) (n 4) (nI i))) 14 (upd (g 14) (n 4) y)) 15 (rowB (g 15) (rowS (g 15) (n 4) (nI 1) (nI i) y) (n 4))) 15 = rowB (g 15) (rowS (g 15) (n 4) (nI 1) (nI i) y) (n 4) := by rw [va_up_self]
  have qg_16 : (va_up (va_up (va_up (va_up (va_up g 5 (upd (g 5) i y)) 11 (upd (g 11) (n 4) (nI 1))) 12 (upd (g 12) (n 4) (nI i))) 14 (upd (g 14) (n 4) y)) 15 (rowB (g 15) (rowS (g 15) (n 4) (nI 1) (nI i) y) (n 4))) 16 = g 16 := by rw [va_up_ne _ _ (by decide), va_up_ne _ _ (by decide), va_up_ne _ _ (by decide), va_up_ne _ _ (by decide), va_up_ne _ _ (by decide)]
  have qz_0 : (va_up (va_up (va_up (va_up (va_up z 0 b1_12) 1 (mkf m1_7 (rowS (g 15) (n 4) (nI 1) (nI i) y) 32)) 2 w1_13) 3 h1_15) 4 v1_14) 0 = b1_12 := by rw [va_up_ne _ _ (by decide), va_up_ne _ _ (by decide), va_up_ne _ _ (by decide), va_up_ne _ _ (by decide), va_up_self]
  have qz_1 : (va_up (va_up (va_up (va_up (va_up z 0 b1_12) 1 (mkf m1_7 (rowS (g 15) (n 4) (nI 1) (nI i) y) 32)) 2 w1_13) 3 h1_15) 4 v1_14) 1 = mkf m1_7 (rowS (g 15) (n 4) (nI 1) (nI i) y) 32 := by rw [va_up_ne _ _ (by decide), va_up_ne _ _ (by decide), va_up_ne _ _ (by decide), va_up_self]
  have qz_2 : (va_up (va_up (va_up (va_up (va_up z 0 b1_12) 1 (mkf m1_7 (rowS (g 15) (n 4) (nI 1) (nI i) y) 32)) 2 w1_13) 3 h1_15) 4 v1_14) 2 = w1_13 := by rw [va_up_ne _ _ (by decide), va_up_ne _ _ (by decide), va_up_self]
  have qz_3 : (va_up (va_up (va_up (va_up (va_up z 0 b1_12) 1 (mkf m1_7 (rowS (g 15) (n 4) (nI 1) (nI i) y) 32)) 2 w1_13) 3 h1_15) 4 v1_14) 3 = h1_15 := by rw [va_up_ne _ _ (by decide), va_up_self]
  have qz_4 : (va_up (va_up (va_up (va_up (va_up z 0 b1_12) 1 (mkf m1_7 (rowS (g 15) (n 4) (nI 1) (nI i) y) 32)) 2 w1_13) 3 h1_15) 4 v1_14) 4 = v1_14 := by rw [va_up_self]
  have hRz : RepM ca ad (va_up n 4 ((n 4) + 1)) (va_up (va_up (va_up (va_up (va_up g 5 (upd (g 5) i y)) 11 (upd (g 11) (n 4) (nI 1))) 12 (upd (g 12) (n 4) (nI i))) 14 (upd (g 14) (n 4) y)) 15 (rowB (g 15) (rowS (g 15) (n 4) (nI 1) (nI i) y) (n 4))) (va_up (va_up (va_up (va_up (va_up z 0 b1_12) 1 (mkf m1_7 (rowS (g 15) (n 4) (nI 1) (nI i) y) 32)) 2 w1_13) 3 h1_15) 4 v1_14) 44 tb f_10 := ⟨(by rw [qn_7, qn_0, qn_1, qn_2, qn_3, qn_4, qn_5, qg_13]; exact c_302),
        (by rw [qg_0]; exact c_303),
        (by rw [qg_1]; exact c_304),
        (by rw [qg_2]; exact c_305),
        (by rw [qg_3]; exact c_306),
        (by rw [qg_4]; exact c_307),
        (by rw [qg_5]; exact c_308),
        (by rw [qg_6]; exact c_309),
        (by rw [qg_7]; exact c_310),
        (by rw [qg_8]; exact c_311),
        (by rw [qg_9]; exact c_312),
        (by rw [qg_10]; exact c_313),
        (by rw [qg_11]; exact c_314),
        (by rw [qg_12]; exact c_315),
        (by rw [qg_14]; exact c_316),
        (by rw [qg_15]; exact c_317),
        (by rw [qg_16]; exact c_318),
        (by rw [qz_0]; exact c_319),
        (by rw [qz_1]; exact c_320),
        (by rw [qz_2]; exact c_321),
        (by rw [qz_3]; exact c_322),
        (by rw [qz_4]; exact c_323),
        c_324,
        c_325, (by first | omega | assumption)⟩
  exact x_zret hx hb hr hlocks hw (by first | exact Or.inl rfl | exact Or.inr rfl) ⟨rfl, va_up (va_up (va_up (va_up (va_up z 0 b1_12) 1 (mkf m1_7 (rowS (g 15) (n 4) (nI 1) (nI i) y) 32)) 2 w1_13) 3 h1_15) 4 v1_14, 44, hRz, (fun y hy => by rw [ef_10, va_up_ne _ _ (by omega), va_up_ne _ _ (by omega), va_up_ne _ _ (by omega), va_up_ne _ _ (by omega), va_up_ne _ _ (by omega), va_up_ne _ _ (by omega), va_up_ne _ _ (by omega), va_up_ne _ _ (by omega), va_up_ne _ _ (by omega), va_up_ne _ _ (by omega), ef_9, va_up_ne _ _ (by omega), ef_1, va_up_ne _ _ (by omega), va_up_ne _ _ (by omega), va_up_ne _ _ (by omega), va_up_ne _ _ (by omega), va_up_ne _ _ (by omega), va_up_ne _ _ (by omega)])⟩ dX6_check_42

set_option maxHeartbeats 4000000 in
set_option maxRecDepth 100000 in
theorem k_X6_check_fitF (l : Launch) (D : va_G) (ca : Nat → ClassId) (N : Nat) (ad : Nat → Nat) (B tR tK : Nat) (f : Nat → va_E) (dd : xD N ad B) (hN : 326 ≤ N) (n : Nat → Nat) (g : Nat → Nat → Int32) (z : Nat → Nat → Int32) (zn : Nat) (tb : Nat → Int32) (hR : RepM ca ad n g z zn tb f) (i : Nat) (y : Int32) (zz : Nat) (hi : i < 20) (hz : g 2 i = nI zz) (hz2 : zz ≤ 200) (hr9 : n 4 = 200) (hf : mFit g i i zz) : xMi l yX6_check wsX6_check rmX6_check [.ref (ad 302), .int (nI i), .int y] D ca N ad B tR tK f (fun r u => nI 1 = r ∧ ∃ (z1 : Nat → Nat → Int32) (zn1 : Nat), RepM ca ad n (va_up g 5 (upd (g 5) i y)) z1 zn1 tb u ∧ ∀ y, (y < 302 ∨ 326 ≤ y) → u y = f y) := by
  refine x_open (cc := cX6_check) (maxL := 4) (ret := (some .boolean)) (by decide) rfl (Nat.le_of_ble_eq_true rfl) ?_
  intro p e s m below meth c ls hx hb hml hown hts hr hlocks hnm hB hK hE hw hl
  have hown : s.vm.findClass RX6 = some m.cls := hown
  have hl : lv_has ls 4 [(0, .ref (ad 302)), (1, .int (nI i)), (2, .int y)] := hl
  obtain ⟨c_302, c_303, c_304, c_305, c_306, c_307, c_308, c_309, c_310, c_311, c_312, c_313, c_314, c_315, c_316, c_317, c_318, c_319, c_320, c_321, c_322, c_323, c_324, c_325, hzn⟩ := hR
  have hin_7 : ∀ w ∈ u_ws RX6 TX6 32, w ∈ wsX6_check := by decide +kernel
  have hf_26 := hts (.fieldLink RX6 26 "FixityRowsModel" "fitted" "[I") (by decide +kernel)
  have b_302 := c_302
  have b_303 := c_303
  have b_304 := c_304
  have b_305 := c_305
  have b_306 := c_306
  have b_307 := c_307
  have b_308 := c_308
  have b_309 := c_309
  have b_310 := c_310
  have b_311 := c_311
  have b_312 := c_312
  have b_313 := c_313
  have b_314 := c_314
  have b_315 := c_315
  have b_316 := c_316
  have b_317 := c_317
  have b_318 := c_318
  have b_319 := c_319
  have b_320 := c_320
  have b_321 := c_321
  have b_322 := c_322
  have b_323 := c_323
  have b_324 := c_324
  have b_325 := c_325
  refine lv_aload_n hx hb dX6_check_0 rfl (lv_at hl 0 rfl) ?_
  refine lv_iload_n hx hb dX6_check_1 rfl (lv_at hl 1 rfl) ?_
  refine x_Vi (q := 302) (As := [.int (nI i)]) (rest := []) ⟨hx, hb, hml, hown, hts⟩ (k_X6_fits l D ca N ad B tR tK f dd (n 7) (n 0) (n 1) (n 2) (g 13 0) (n 3) (n 4) (n 5) zn (g 3) (g 4) (z 0) (z 1) (z 2) (z 3) (z 4) (g 1) (g 2) i zz c_302 c_306 c_307 c_319 c_320 c_321 c_322 c_323 c_324 c_325 c_304 c_305  (by omega) (by omega) hz (by omega)) (cwV 1 hts gX6_check_X6_fits rfl rfl rfl (by decide +kernel) ⟨Nat.le_of_ble_eq_true rfl, Nat.le_of_ble_eq_true rfl⟩) hK hE hB hw (by omega) c_302 rfl rfl rfl rfl hl.1 (Nat.le_of_ble_eq_true rfl) ⟨Nat.zero_le _, Nat.zero_le _⟩ dX6_check_2 (fun r_2 f_1 H locs hp hw => ?_)
  obtain ⟨b1_3, w1_4, v1_5, h1_6, m1_7, hq_8, er, eu⟩ := hp
  rw [← er]
  have ef_1 : f_1 = va_up (va_up (va_up (va_up (va_up (va_up f 302 (.inr (7, mO ad (n 7) (n 0) (n 1) (n 2) (g 13 0) (n 3) (n 4) (n 5) zz))) 319 (ai (ca 1) 320 b1_3)) 321 (ai (ca 0) 64 w1_4)) 323 (ai (ca 0) 8 v1_5)) 322 (ai (ca 0) 8 h1_6)) 320 (ai (ca 1) 36 m1_7) := eu
  have c_302 : f_1 302 = .inr (7, mO ad (n 7) (n 0) (n 1) (n 2) (g 13 0) (n 3) (n 4) (n 5) zz) := by rw [ef_1, va_up_ne _ _ (by decide), va_up_ne _ _ (by decide), va_up_ne _ _ (by decide), va_up_ne _ _ (by decide), va_up_ne _ _ (by decide), va_up_self]
  have c_319 : f_1 319 = ai (ca 1) 320 b1_3 := by rw [ef_1, va_up_ne _ _ (by decide), va_up_ne _ _ (by decide), va_up_ne _ _ (by decide), va_up_ne _ _ (by decide), va_up_self]
  have c_321 : f_1 321 = ai (ca 0) 64 w1_4 := by rw [ef_1, va_up_ne _ _ (by decide), va_up_ne _ _ (by decide), va_up_ne _ _ (by decide), va_up_self]
  have c_323 : f_1 323 = ai (ca 0) 8 v1_5 := by rw [ef_1, va_up_ne _ _ (by decide), va_up_ne _ _ (by decide), va_up_self]
  have c_322 : f_1 322 = ai (ca 0) 8 h1_6 := by rw [ef_1, va_up_ne _ _ (by decide), va_up_self]
  have c_320 : f_1 320 = ai (ca 1) 36 m1_7 := by rw [ef_1, va_up_self]
  rw [bI_t (show hasM (g 4) i (sha zz (fun x => g 1 (200 * i + x) &&& nI 255)) (crM (fun x => g 1 (200 * i + x)) zz ^^^ (-1)) (g 3 i) from hf)]
  refine lv_istore_n (lv' := [(3, .int (nI 1)), (0, .ref (ad 302)), (1, .int (nI i)), (2, .int y)]) hx hb dX6_check_5 rfl hl (by decide) rfl (fun ls hl => ?_)
  refine lv_aload_n hx hb dX6_check_6 rfl (lv_at hl 1 rfl) ?_
  refine x_get (ci := 7) (C := RX6) (T := TX6) (n := 32) (ref := RX6) hx hb hts hin_7 hown hK hw 302 (by omega) c_302 rfl 9 (by decide) hf_26 (fun _ h => h) rfl dX6_check_7 ?_
  refine lv_iload_n hx hb dX6_check_10 rfl (lv_at hl 2 rfl) ?_
  refine lv_iload_n hx hb dX6_check_11 rfl (lv_at hl 0 rfl) ?_
  refine lv_if_eq (tgt := 19) hx hb dX6_check_12 (by decide) (fun h => absurd h (by decide)) (fun _ => ?_)
  refine lv_iload_n hx hb dX6_check_15 rfl (lv_at hl 3 rfl) ?_
  refine lv_goto (tgt := 25) hx hb dX6_check_16 (by decide) ?_
  have c_308 : f_1 308 = ai (ca 0) 20 (g 5) := by rw [ef_1, va_up_ne _ _ (by decide), va_up_ne _ _ (by decide), va_up_ne _ _ (by decide), va_up_ne _ _ (by decide), va_up_ne _ _ (by decide), va_up_ne _ _ (by decide)]; exact c_308
  refine x_iast (j := i) hx hb hK dd hw 308 0 (by omega) c_308 rfl rfl (by omega) (by decide) dX6_check_25 (fun H locs hw => ?_)
  obtain ⟨f_9, ef_9⟩ : ∃ z, z = va_up f_1 308 (ai (ca 0) 20 (upd (g 5) i y)) := ⟨_, rfl⟩
  have hw : xw D vwCl N ad B s.heap f_9 H locs := by rw [ef_9]; exact hw
  have c_308 : f_9 308 = ai (ca 0) 20 (upd (g 5) i y) := va_up_of ef_9
  refine lv_aload_n hx hb dX6_check_26 rfl (lv_at hl 1 rfl) ?_
  refine lv_iload_n hx hb dX6_check_27 rfl (lv_at hl 0 rfl) ?_
  refine lv_if_eq (tgt := 35) hx hb dX6_check_28 (by decide) (fun h => absurd h (by decide)) (fun _ => ?_)
  refine lv_iconst (v := nI 1) hx hb dX6_check_31 (by decide) ?_
  refine lv_goto (tgt := 36) hx hb dX6_check_32 (by decide) ?_
  refine lv_iload_n hx hb dX6_check_36 rfl (lv_at hl 2 rfl) ?_
  refine lv_iload_n hx hb dX6_check_37 rfl (lv_at hl 3 rfl) ?_
  have c_302 : f_9 302 = .inr (7, mO ad (n 7) (n 0) (n 1) (n 2) (g 13 0) (n 3) (n 4) (n 5) zz) := by rw [ef_9, va_up_ne _ _ (by decide)]; exact c_302
  refine x_Vv (q := 302) (As := [.int (nI 1), .int (nI i), .int y]) (rest := []) ⟨hx, hb, hml, hown, hts⟩ (k_X6_enter_full l D ca N ad B tR tK f_9 dd (n 7) (n 0) (n 1) (n 2) (g 13 0) (n 3) (n 4) (n 5) zz (nI 1) (nI i) y c_302  (by omega) (by omega)) (cwV 3 hts gX6_check_X6_enter rfl rfl rfl (by decide +kernel) ⟨Nat.le_of_ble_eq_true rfl, Nat.le_of_ble_eq_true rfl⟩) hK hE hB hw (by omega) c_302 rfl rfl rfl rfl hl.1 (Nat.le_of_ble_eq_true rfl) ⟨Nat.zero_le _, Nat.zero_le _⟩ dX6_check_38 (fun f_10 H locs hp hw => ?_)
  have eu := hp
  rw [← eu] at hw
  refine lv_iload_n hx hb dX6_check_41 rfl (lv_at hl 0 rfl) ?_
  have c_303 : f_9 303 = ai (ca 1) 200 (g 0) := by rw [ef_9, va_up_ne _ _ (by decide), ef_1, va_up_ne _ _ (by decide), va_up_ne _ _ (by decide), va_up_ne _ _ (by decide), va_up_ne _ _ (by decide), va_up_ne _ _ (by decide), va_up_ne _ _ (by decide)]; exact c_303
  have c_304 : f_9 304 = ai (ca 1) 4000 (g 1) := by rw [ef_9, va_up_ne _ _ (by decide), ef_1, va_up_ne _ _ (by decide), va_up_ne _ _ (by decide), va_up_ne _ _ (by decide), va_up_ne _ _ (by decide), va_up_ne _ _ (by decide), va_up_ne _ _ (by decide)]; exact c_304
  have c_305 : f_9 305 = ai (ca 0) 20 (g 2) := by rw [ef_9, va_up_ne _ _ (by decide), ef_1, va_up_ne _ _ (by decide), va_up_ne _ _ (by decide), va_up_ne _ _ (by decide), va_up_ne _ _ (by decide), va_up_ne _ _ (by decide), va_up_ne _ _ (by decide)]; exact c_305
  have c_306 : f_9 306 = ai (ca 0) 20 (g 3) := by rw [ef_9, va_up_ne _ _ (by decide), ef_1, va_up_ne _ _ (by decide), va_up_ne _ _ (by decide), va_up_ne _ _ (by decide), va_up_ne _ _ (by decide), va_up_ne _ _ (by decide), va_up_ne _ _ (by decide)]; exact c_306
  have c_307 : f_9 307 = ai (ca 1) 720 (g 4) := by rw [ef_9, va_up_ne _ _ (by decide), ef_1, va_up_ne _ _ (by decide), va_up_ne _ _ (by decide), va_up_ne _ _ (by decide), va_up_ne _ _ (by decide), va_up_ne _ _ (by decide), va_up_ne _ _ (by decide)]; exact c_307
  have c_309 : f_9 309 = ai (ca 0) 20 (g 6) := by rw [ef_9, va_up_ne _ _ (by decide), ef_1, va_up_ne _ _ (by decide), va_up_ne _ _ (by decide), va_up_ne _ _ (by decide), va_up_ne _ _ (by decide), va_up_ne _ _ (by decide), va_up_ne _ _ (by decide)]; exact c_309
  have c_310 : f_9 310 = ai (ca 0) 20 (g 7) := by rw [ef_9, va_up_ne _ _ (by decide), ef_1, va_up_ne _ _ (by decide), va_up_ne _ _ (by decide), va_up_ne _ _ (by decide), va_up_ne _ _ (by decide), va_up_ne _ _ (by decide), va_up_ne _ _ (by decide)]; exact c_310
  have c_311 : f_9 311 = ai (ca 0) 20 (g 8) := by rw [ef_9, va_up_ne _ _ (by decide), ef_1, va_up_ne _ _ (by decide), va_up_ne _ _ (by decide), va_up_ne _ _ (by decide), va_up_ne _ _ (by decide), va_up_ne _ _ (by decide), va_up_ne _ _ (by decide)]; exact c_311
  have c_312 : f_9 312 = ai (ca 0) 20 (g 9) := by rw [ef_9, va_up_ne _ _ (by decide), ef_1, va_up_ne _ _ (by decide), va_up_ne _ _ (by decide), va_up_ne _ _ (by decide), va_up_ne _ _ (by decide), va_up_ne _ _ (by decide), va_up_ne _ _ (by decide)]; exact c_312
  have c_313 : f_9 313 = ai (ca 2) 20 (g 10) := by rw [ef_9, va_up_ne _ _ (by decide), ef_1, va_up_ne _ _ (by decide), va_up_ne _ _ (by decide), va_up_ne _ _ (by decide), va_up_ne _ _ (by decide), va_up_ne _ _ (by decide), va_up_ne _ _ (by decide)]; exact c_313
  have c_314 : f_9 314 = ai (ca 0) 200 (g 11) := by rw [ef_9, va_up_ne _ _ (by decide), ef_1, va_up_ne _ _ (by decide), va_up_ne _ _ (by decide), va_up_ne _ _ (by decide), va_up_ne _ _ (by decide), va_up_ne _ _ (by decide), va_up_ne _ _ (by decide)]; exact c_314
  have c_315 : f_9 315 = ai (ca 0) 200 (g 12) := by rw [ef_9, va_up_ne _ _ (by decide), ef_1, va_up_ne _ _ (by decide), va_up_ne _ _ (by decide), va_up_ne _ _ (by decide), va_up_ne _ _ (by decide), va_up_ne _ _ (by decide), va_up_ne _ _ (by decide)]; exact c_315
  have c_316 : f_9 316 = ai (ca 0) 200 (g 14) := by rw [ef_9, va_up_ne _ _ (by decide), ef_1, va_up_ne _ _ (by decide), va_up_ne _ _ (by decide), va_up_ne _ _ (by decide), va_up_ne _ _ (by decide), va_up_ne _ _ (by decide), va_up_ne _ _ (by decide)]; exact c_316
  have c_317 : f_9 317 = ai (ca 1) 6400 (g 15) := by rw [ef_9, va_up_ne _ _ (by decide), ef_1, va_up_ne _ _ (by decide), va_up_ne _ _ (by decide), va_up_ne _ _ (by decide), va_up_ne _ _ (by decide), va_up_ne _ _ (by decide), va_up_ne _ _ (by decide)]; exact c_317
  have c_318 : f_9 318 = ai (ca 1) 32 (g 16) := by rw [ef_9, va_up_ne _ _ (by decide), ef_1, va_up_ne _ _ (by decide), va_up_ne _ _ (by decide), va_up_ne _ _ (by decide), va_up_ne _ _ (by decide), va_up_ne _ _ (by decide), va_up_ne _ _ (by decide)]; exact c_318
  have c_319 : f_9 319 = ai (ca 1) 320 b1_3 := by rw [ef_9, va_up_ne _ _ (by decide)]; exact c_319
  have c_320 : f_9 320 = ai (ca 1) 36 m1_7 := by rw [ef_9, va_up_ne _ _ (by decide)]; exact c_320
  have c_321 : f_9 321 = ai (ca 0) 64 w1_4 := by rw [ef_9, va_up_ne _ _ (by decide)]; exact c_321
  have c_322 : f_9 322 = ai (ca 0) 8 h1_6 := by rw [ef_9, va_up_ne _ _ (by decide)]; exact c_322
  have c_323 : f_9 323 = ai (ca 0) 8 v1_5 := by rw [ef_9, va_up_ne _ _ (by decide)]; exact c_323
  have c_324 : f_9 324 = ai (ca 0) 8 shR := by rw [ef_9, va_up_ne _ _ (by decide), ef_1, va_up_ne _ _ (by decide), va_up_ne _ _ (by decide), va_up_ne _ _ (by decide), va_up_ne _ _ (by decide), va_up_ne _ _ (by decide), va_up_ne _ _ (by decide)]; exact c_324
  have c_325 : f_9 325 = ai (ca 0) 64 shK := by rw [ef_9, va_up_ne _ _ (by decide), ef_1, va_up_ne _ _ (by decide), va_up_ne _ _ (by decide), va_up_ne _ _ (by decide), va_up_ne _ _ (by decide), va_up_ne _ _ (by decide), va_up_ne _ _ (by decide)]; exact c_325
  have qg_0 : (va_up g 5 (upd (g 5) i y)) 0 = g 0 := by rw [va_up_ne _ _ (by decide)]
  have qg_1 : (va_up g 5 (upd (g 5) i y)) 1 = g 1 := by rw [va_up_ne _ _ (by decide)]
  have qg_2 : (va_up g 5 (upd (g 5) i y)) 2 = g 2 := by rw [va_up_ne _ _ (by decide)]
  have qg_3 : (va_up g 5 (upd (g 5) i y)) 3 = g 3 := by rw [va_up_ne _ _ (by decide)]
  have qg_4 : (va_up g 5 (upd (g 5) i y)) 4 = g 4 := by rw [va_up_ne _ _ (by decide)]
  have qg_5 : (va_up g 5 (upd (g 5) i y)) 5 = upd (g 5) i y := by rw [va_up_self]
  have qg_6 : (va_up g 5 (upd (g 5) i y)) 6 = g 6 := by rw [va_up_ne _ _ (by decide)]
  have qg_7 : (va_up g 5 (upd (g 5) i y)) 7 = g 7 := by rw [va_up_ne _ _ (by decide)]
  have qg_8 : (va_up g 5 (upd (g 5) i y)) 8 = g 8 := by rw [va_up_ne _ _ (by decide)]
  have qg_9 : (va_up g 5 (upd (g 5) i y)) 9 = g 9 := by rw [va_up_ne _ _ (by decide)]
  have qg_10 : (va_up g 5 (upd (g 5) i y)) 10 = g 10 := by rw [va_up_ne _ _ (by decide)]
  have qg_11 : (va_up g 5 (upd (g 5) i y)) 11 = g 11 := by rw [va_up_ne _ _ (by decide)]
  have qg_12 : (va_up g 5 (upd (g 5) i y)) 12 = g 12 := by rw [va_up_ne _ _ (by decide)]
  have qg_13 : (va_up g 5 (upd (g 5) i y)) 13 = g 13 := by rw [va_up_ne _ _ (by decide)]
  have qg_14 : (va_up g 5 (upd (g 5) i y)) 14 = g 14 := by rw [va_up_ne _ _ (by decide)]
  have qg_15 : (va_up g 5 (upd (g 5) i y)) 15 = g 15 := by rw [va_up_ne _ _ (by decide)]
  have qg_16 : (va_up g 5 (upd (g 5) i y)) 16 = g 16 := by rw [va_up_ne _ _ (by decide)]
  have qz_0 : (va_up (va_up (va_up (va_up (va_up z 0 b1_3) 1 m1_7) 2 w1_4) 3 h1_6) 4 v1_5) 0 = b1_3 := by rw [va_up_ne _ _ (by decide), va_up_ne _ _ (by decide), va_up_ne _ _ (by decide), va_up_ne _ _ (by decide), va_up_self]
  have qz_1 : (va_up (va_up (va_up (va_up (va_up z 0 b1_3) 1 m1_7) 2 w1_4) 3 h1_6) 4 v1_5) 1 = m1_7 := by rw [va_up_ne _ _ (by decide), va_up_ne _ _ (by decide), va_up_ne _ _ (by decide), va_up_self]
  have qz_2 : (va_up (va_up (va_up (va_up (va_up z 0 b1_3) 1 m1_7) 2 w1_4) 3 h1_6) 4 v1_5) 2 = w1_4 := by rw [va_up_ne _ _ (by decide), va_up_ne _ _ (by decide), va_up_self]
  have qz_3 : (va_up (va_up (va_up (va_up (va_up z 0 b1_3) 1 m1_7) 2 w1_4) 3 h1_6) 4 v1_5) 3 = h1_6 := by rw [va_up_ne _ _ (by decide), va_up_self]
  have qz_4 : (va_up (va_up (va_up (va_up (va_up z 0 b1_3) 1 m1_7) 2 w1_4) 3 h1_6) 4 v1_5) 4 = v1_5 := by rw [va_up_self]
  have hRz : RepM ca ad n (va_up g 5 (upd (g 5) i y)) (va_up (va_up (va_up (va_up (va_up z 0 b1_3) 1 m1_7) 2 w1_4) 3 h1_6) 4 v1_5) zz tb f_9 := ⟨(by rw [qg_13]; exact c_302),
        (by rw [qg_0]; exact c_303),
        (by rw [qg_1]; exact c_304),
        (by rw [qg_2]; exact c_305),
        (by rw [qg_3]; exact c_306),
        (by rw [qg_4]; exact c_307),
        (by rw [qg_5]; exact c_308),
        (by rw [qg_6]; exact c_309),
        (by rw [qg_7]; exact c_310),
        (by rw [qg_8]; exact c_311),
        (by rw [qg_9]; exact c_312),
        (by rw [qg_10]; exact c_313),
        (by rw [qg_11]; exact c_314),
        (by rw [qg_12]; exact c_315),
        (by rw [qg_14]; exact c_316),
        (by rw [qg_15]; exact c_317),
        (by rw [qg_16]; exact c_318),
        (by rw [qz_0]; exact c_319),
        (by rw [qz_1]; exact c_320),
        (by rw [qz_2]; exact c_321),
        (by rw [qz_3]; exact c_322),
        (by rw [qz_4]; exact c_323),
        c_324,
        c_325, (by first | omega | assumption)⟩
  exact x_zret hx hb hr hlocks hw (by first | exact Or.inl rfl | exact Or.inr rfl) ⟨rfl, va_up (va_up (va_up (va_up (va_up z 0 b1_3) 1 m1_7) 2 w1_4) 3 h1_6) 4 v1_5, zz, hRz, (fun y hy => by rw [ef_9, va_up_ne _ _ (by omega), ef_1, va_up_ne _ _ (by omega), va_up_ne _ _ (by omega), va_up_ne _ _ (by omega), va_up_ne _ _ (by omega), va_up_ne _ _ (by omega), va_up_ne _ _ (by omega)])⟩ dX6_check_42

set_option maxHeartbeats 4000000 in
set_option maxRecDepth 100000 in
theorem k_X6_check_no (l : Launch) (D : va_G) (ca : Nat → ClassId) (N : Nat) (ad : Nat → Nat) (B tR tK : Nat) (f : Nat → va_E) (dd : xD N ad B) (hN : 326 ≤ N) (n : Nat → Nat) (g : Nat → Nat → Int32) (z : Nat → Nat → Int32) (zn : Nat) (tb : Nat → Int32) (hR : RepM ca ad n g z zn tb f) (i : Nat) (y : Int32) (zz : Nat) (hi : i < 20) (hz : g 2 i = nI zz) (hz2 : zz ≤ 200) (hr9 : n 4 < 200) (hf : ¬ mFit g i i zz) : xMi l yX6_check wsX6_check rmX6_check [.ref (ad 302), .int (nI i), .int y] D ca N ad B tR tK f (fun r u => nI 0 = r ∧ ∃ (z1 : Nat → Nat → Int32) (zn1 : Nat), RepM ca ad (va_up n 4 ((n 4) + 1)) (va_up (va_up (va_up (va_up g 11 (upd (g 11) (n 4) (nI 2))) 12 (upd (g 12) (n 4) (nI i))) 14 (upd (g 14) (n 4) y)) 15 (rowB (g 15) (rowS (g 15) (n 4) (nI 2) (nI i) y) (n 4))) z1 zn1 tb u ∧ ∀ y, (y < 302 ∨ 326 ≤ y) → u y = f y) := by
  refine x_open (cc := cX6_check) (maxL := 4) (ret := (some .boolean)) (by decide) rfl (Nat.le_of_ble_eq_true rfl) ?_
  intro p e s m below meth c ls hx hb hml hown hts hr hlocks hnm hB hK hE hw hl
  have hown : s.vm.findClass RX6 = some m.cls := hown
  have hl : lv_has ls 4 [(0, .ref (ad 302)), (1, .int (nI i)), (2, .int y)] := hl
  obtain ⟨c_302, c_303, c_304, c_305, c_306, c_307, c_308, c_309, c_310, c_311, c_312, c_313, c_314, c_315, c_316, c_317, c_318, c_319, c_320, c_321, c_322, c_323, c_324, c_325, hzn⟩ := hR
  have hin_7 : ∀ w ∈ u_ws RX6 TX6 32, w ∈ wsX6_check := by decide +kernel
  have hf_26 := hts (.fieldLink RX6 26 "FixityRowsModel" "fitted" "[I") (by decide +kernel)
  have b_302 := c_302
  have b_303 := c_303
  have b_304 := c_304
  have b_305 := c_305
  have b_306 := c_306
  have b_307 := c_307
  have b_308 := c_308
  have b_309 := c_309
  have b_310 := c_310
  have b_311 := c_311
  have b_312 := c_312
  have b_313 := c_313
  have b_314 := c_314
  have b_315 := c_315
  have b_316 := c_316
  have b_317 := c_317
  have b_318 := c_318
  have b_319 := c_319
  have b_320 := c_320
  have b_321 := c_321
  have b_322 := c_322
  have b_323 := c_323
  have b_324 := c_324
  have b_325 := c_325
  refine lv_aload_n hx hb dX6_check_0 rfl (lv_at hl 0 rfl) ?_
  refine lv_iload_n hx hb dX6_check_1 rfl (lv_at hl 1 rfl) ?_
  refine x_Vi (q := 302) (As := [.int (nI i)]) (rest := []) ⟨hx, hb, hml, hown, hts⟩ (k_X6_fits l D ca N ad B tR tK f dd (n 7) (n 0) (n 1) (n 2) (g 13 0) (n 3) (n 4) (n 5) zn (g 3) (g 4) (z 0) (z 1) (z 2) (z 3) (z 4) (g 1) (g 2) i zz c_302 c_306 c_307 c_319 c_320 c_321 c_322 c_323 c_324 c_325 c_304 c_305  (by omega) (by omega) hz (by omega)) (cwV 1 hts gX6_check_X6_fits rfl rfl rfl (by decide +kernel) ⟨Nat.le_of_ble_eq_true rfl, Nat.le_of_ble_eq_true rfl⟩) hK hE hB hw (by omega) c_302 rfl rfl rfl rfl hl.1 (Nat.le_of_ble_eq_true rfl) ⟨Nat.zero_le _, Nat.zero_le _⟩ dX6_check_2 (fun r_2 f_1 H locs hp hw => ?_)
  obtain ⟨b1_3, w1_4, v1_5, h1_6, m1_7, hq_8, er, eu⟩ := hp
  rw [← er]
  have ef_1 : f_1 = va_up (va_up (va_up (va_up (va_up (va_up f 302 (.inr (7, mO ad (n 7) (n 0) (n 1) (n 2) (g 13 0) (n 3) (n 4) (n 5) zz))) 319 (ai (ca 1) 320 b1_3)) 321 (ai (ca 0) 64 w1_4)) 323 (ai (ca 0) 8 v1_5)) 322 (ai (ca 0) 8 h1_6)) 320 (ai (ca 1) 36 m1_7) := eu
  have c_302 : f_1 302 = .inr (7, mO ad (n 7) (n 0) (n 1) (n 2) (g 13 0) (n 3) (n 4) (n 5) zz) := by rw [ef_1, va_up_ne _ _ (by decide), va_up_ne _ _ (by decide), va_up_ne _ _ (by decide), va_up_ne _ _ (by decide), va_up_ne _ _ (by decide), va_up_self]
  have c_319 : f_1 319 = ai (ca 1) 320 b1_3 := by rw [ef_1, va_up_ne _ _ (by decide), va_up_ne _ _ (by decide), va_up_ne _ _ (by decide), va_up_ne _ _ (by decide), va_up_self]
  have c_321 : f_1 321 = ai (ca 0) 64 w1_4 := by rw [ef_1, va_up_ne _ _ (by decide), va_up_ne _ _ (by decide), va_up_ne _ _ (by decide), va_up_self]
  have c_323 : f_1 323 = ai (ca 0) 8 v1_5 := by rw [ef_1, va_up_ne _ _ (by decide), va_up_ne _ _ (by decide), va_up_self]
  have c_322 : f_1 322 = ai (ca 0) 8 h1_6 := by rw [ef_1, va_up_ne _ _ (by decide), va_up_self]
  have c_320 : f_1 320 = ai (ca 1) 36 m1_7 := by rw [ef_1, va_up_self]
  rw [bI_f (show ¬ hasM (g 4) i (sha zz (fun x => g 1 (200 * i + x) &&& nI 255)) (crM (fun x => g 1 (200 * i + x)) zz ^^^ (-1)) (g 3 i) from hf)]
  refine lv_istore_n (lv' := [(3, .int (nI 0)), (0, .ref (ad 302)), (1, .int (nI i)), (2, .int y)]) hx hb dX6_check_5 rfl hl (by decide) rfl (fun ls hl => ?_)
  refine lv_aload_n hx hb dX6_check_6 rfl (lv_at hl 1 rfl) ?_
  refine x_get (ci := 7) (C := RX6) (T := TX6) (n := 32) (ref := RX6) hx hb hts hin_7 hown hK hw 302 (by omega) c_302 rfl 9 (by decide) hf_26 (fun _ h => h) rfl dX6_check_7 ?_
  refine lv_iload_n hx hb dX6_check_10 rfl (lv_at hl 2 rfl) ?_
  refine lv_iload_n hx hb dX6_check_11 rfl (lv_at hl 0 rfl) ?_
  refine lv_if_eq (tgt := 19) hx hb dX6_check_12 (by decide) (fun _ => ?_) (fun h => False.elim (h (by decide)))
  refine lv_aload_n hx hb dX6_check_19 rfl (lv_at hl 1 rfl) ?_
  refine x_get (ci := 7) (C := RX6) (T := TX6) (n := 32) (ref := RX6) hx hb hts hin_7 hown hK hw 302 (by omega) c_302 rfl 9 (by decide) hf_26 (fun _ h => h) rfl dX6_check_20 ?_
  refine lv_iload_n hx hb dX6_check_23 rfl (lv_at hl 2 rfl) ?_
  have c_308 : f_1 308 = ai (ca 0) 20 (g 5) := by rw [ef_1, va_up_ne _ _ (by decide), va_up_ne _ _ (by decide), va_up_ne _ _ (by decide), va_up_ne _ _ (by decide), va_up_ne _ _ (by decide), va_up_ne _ _ (by decide)]; exact c_308
  refine x_iald (j := i) hx hb hK hw 308 0 (by omega) c_308 rfl rfl (by omega) (by decide) dX6_check_24 ?_
  refine lv_topi (fun x_9 ex_9 => ?_)
  refine x_iast (j := i) hx hb hK dd hw 308 0 (by omega) c_308 rfl rfl (by omega) (by decide) dX6_check_25 (fun H locs hw => ?_)
  obtain ⟨f_10, ef_10⟩ : ∃ z, z = va_up f_1 308 (ai (ca 0) 20 (upd (g 5) i x_9)) := ⟨_, rfl⟩
  have hw : xw D vwCl N ad B s.heap f_10 H locs := by rw [ef_10]; exact hw
  have c_308 : f_10 308 = ai (ca 0) 20 (upd (g 5) i x_9) := va_up_of ef_10
  obtain ⟨f_11, ef_11⟩ : ∃ z, z = va_up f_1 308 (ai (ca 0) 20 (g 5)) := ⟨_, rfl⟩
  have hw : xw D vwCl N ad B s.heap f_11 H locs := by rw [ef_11]; exact xw.arr (by rw [← ef_10]; exact hw) (fun j hj => by rw [ex_9]; exact upd_id _ _ _)
  have c_308 : f_11 308 = ai (ca 0) 20 (g 5) := va_up_of ef_11
  refine lv_aload_n hx hb dX6_check_26 rfl (lv_at hl 1 rfl) ?_
  refine lv_iload_n hx hb dX6_check_27 rfl (lv_at hl 0 rfl) ?_
  refine lv_if_eq (tgt := 35) hx hb dX6_check_28 (by decide) (fun _ => ?_) (fun h => False.elim (h (by decide)))
  refine lv_iconst (v := nI 2) hx hb dX6_check_35 (by decide) ?_
  refine lv_iload_n hx hb dX6_check_36 rfl (lv_at hl 2 rfl) ?_
  refine lv_iload_n hx hb dX6_check_37 rfl (lv_at hl 3 rfl) ?_
  have c_302 : f_11 302 = .inr (7, mO ad (n 7) (n 0) (n 1) (n 2) (g 13 0) (n 3) (n 4) (n 5) zz) := by rw [ef_11, va_up_ne _ _ (by decide)]; exact c_302
  have c_314 : f_11 314 = ai (ca 0) 200 (g 11) := by rw [ef_11, va_up_ne _ _ (by decide), ef_1, va_up_ne _ _ (by decide), va_up_ne _ _ (by decide), va_up_ne _ _ (by decide), va_up_ne _ _ (by decide), va_up_ne _ _ (by decide), va_up_ne _ _ (by decide)]; exact c_314
  have c_315 : f_11 315 = ai (ca 0) 200 (g 12) := by rw [ef_11, va_up_ne _ _ (by decide), ef_1, va_up_ne _ _ (by decide), va_up_ne _ _ (by decide), va_up_ne _ _ (by decide), va_up_ne _ _ (by decide), va_up_ne _ _ (by decide), va_up_ne _ _ (by decide)]; exact c_315
  have c_316 : f_11 316 = ai (ca 0) 200 (g 14) := by rw [ef_11, va_up_ne _ _ (by decide), ef_1, va_up_ne _ _ (by decide), va_up_ne _ _ (by decide), va_up_ne _ _ (by decide), va_up_ne _ _ (by decide), va_up_ne _ _ (by decide), va_up_ne _ _ (by decide)]; exact c_316
  have c_317 : f_11 317 = ai (ca 1) 6400 (g 15) := by rw [ef_11, va_up_ne _ _ (by decide), ef_1, va_up_ne _ _ (by decide), va_up_ne _ _ (by decide), va_up_ne _ _ (by decide), va_up_ne _ _ (by decide), va_up_ne _ _ (by decide), va_up_ne _ _ (by decide)]; exact c_317
  have c_319 : f_11 319 = ai (ca 1) 320 b1_3 := by rw [ef_11, va_up_ne _ _ (by decide)]; exact c_319
  have c_320 : f_11 320 = ai (ca 1) 36 m1_7 := by rw [ef_11, va_up_ne _ _ (by decide)]; exact c_320
  have c_321 : f_11 321 = ai (ca 0) 64 w1_4 := by rw [ef_11, va_up_ne _ _ (by decide)]; exact c_321
  have c_322 : f_11 322 = ai (ca 0) 8 h1_6 := by rw [ef_11, va_up_ne _ _ (by decide)]; exact c_322
  have c_323 : f_11 323 = ai (ca 0) 8 v1_5 := by rw [ef_11, va_up_ne _ _ (by decide)]; exact c_323
  have c_324 : f_11 324 = ai (ca 0) 8 shR := by rw [ef_11, va_up_ne _ _ (by decide), ef_1, va_up_ne _ _ (by decide), va_up_ne _ _ (by decide), va_up_ne _ _ (by decide), va_up_ne _ _ (by decide), va_up_ne _ _ (by decide), va_up_ne _ _ (by decide)]; exact c_324
  have c_325 : f_11 325 = ai (ca 0) 64 shK := by rw [ef_11, va_up_ne _ _ (by decide), ef_1, va_up_ne _ _ (by decide), va_up_ne _ _ (by decide), va_up_ne _ _ (by decide), va_up_ne _ _ (by decide), va_up_ne _ _ (by decide), va_up_ne _ _ (by decide)]; exact c_325
  refine x_Vv (q := 302) (As := [.int (nI 2), .int (nI i), .int y]) (rest := []) ⟨hx, hb, hml, hown, hts⟩ (k_X6_enter_in l D ca N ad B tR tK f_11 dd (n 7) (n 0) (n 1) (n 2) (g 13 0) (n 3) (n 4) (n 5) zz (g 11) (g 12) (g 14) (g 15) b1_3 m1_7 w1_4 h1_6 v1_5 (nI 2) (nI i) y c_302 c_314 c_315 c_316 c_317 c_319 c_320 c_321 c_322 c_323 c_324 c_325  (by omega) (by omega)) (cwV 3 hts gX6_check_X6_enter rfl rfl rfl (by decide +kernel) ⟨Nat.le_of_ble_eq_true rfl, Nat.le_of_ble_eq_true rfl⟩) hK hE hB hw (by omega) c_302 rfl rfl rfl rfl hl.1 (Nat.le_of_ble_eq_true rfl) ⟨Nat.zero_le _, Nat.zero_le _⟩ dX6_check_38 (fun f_12 H locs hp hw => ?_)
  obtain ⟨b1_14, w1_15, v1_16, h1_17, eu⟩ := hp
  have ef_12 : f_12 = va_up (va_up (va_up (va_up (va_up (va_up (va_up (va_up (va_up (va_up f_11 314 (ai (ca 0) 200 (upd (g 11) (n 4) (nI 2)))) 315 (ai (ca 0) 200 (upd (g 12) (n 4) (nI i)))) 316 (ai (ca 0) 200 (upd (g 14) (n 4) y))) 302 (.inr (7, mO ad (n 7) (n 0) (n 1) (n 2) (g 13 0) (n 3) ((n 4) + 1) (n 5) 44))) 319 (ai (ca 1) 320 b1_14)) 321 (ai (ca 0) 64 w1_15)) 323 (ai (ca 0) 8 v1_16)) 322 (ai (ca 0) 8 h1_17)) 320 (ai (ca 1) 36 (mkf m1_7 (rowS (g 15) (n 4) (nI 2) (nI i) y) 32))) 317 (ai (ca 1) 6400 (rowB (g 15) (rowS (g 15) (n 4) (nI 2) (nI i) y) (n 4))) := eu
  have c_314 : f_12 314 = ai (ca 0) 200 (upd (g 11) (n 4) (nI 2)) := by rw [ef_12, va_up_ne _ _ (by decide), va_up_ne _ _ (by decide), va_up_ne _ _ (by decide), va_up_ne _ _ (by decide), va_up_ne _ _ (by decide), va_up_ne _ _ (by decide), va_up_ne _ _ (by decide), va_up_ne _ _ (by decide), va_up_ne _ _ (by decide), va_up_self]
  have c_315 : f_12 315 = ai (ca 0) 200 (upd (g 12) (n 4) (nI i)) := by rw [ef_12, va_up_ne _ _ (by decide), va_up_ne _ _ (by decide), va_up_ne _ _ (by decide), va_up_ne _ _ (by decide), va_up_ne _ _ (by decide), va_up_ne _ _ (by decide), va_up_ne _ _ (by decide), va_up_ne _ _ (by decide), va_up_self]
  have c_316 : f_12 316 = ai (ca 0) 200 (upd (g 14) (n 4) y) := by rw [ef_12, va_up_ne _ _ (by decide), va_up_ne _ _ (by decide), va_up_ne _ _ (by decide), va_up_ne _ _ (by decide), va_up_ne _ _ (by decide), va_up_ne _ _ (by decide), va_up_ne _ _ (by decide), va_up_self]
  have c_302 : f_12 302 = .inr (7, mO ad (n 7) (n 0) (n 1) (n 2) (g 13 0) (n 3) ((n 4) + 1) (n 5) 44) := by rw [ef_12, va_up_ne _ _ (by decide), va_up_ne _ _ (by decide), va_up_ne _ _ (by decide), va_up_ne _ _ (by decide), va_up_ne _ _ (by decide), va_up_ne _ _ (by decide), va_up_self]
  have c_319 : f_12 319 = ai (ca 1) 320 b1_14 := by rw [ef_12, va_up_ne _ _ (by decide), va_up_ne _ _ (by decide), va_up_ne _ _ (by decide), va_up_ne _ _ (by decide), va_up_ne _ _ (by decide), va_up_self]
  have c_321 : f_12 321 = ai (ca 0) 64 w1_15 := by rw [ef_12, va_up_ne _ _ (by decide), va_up_ne _ _ (by decide), va_up_ne _ _ (by decide), va_up_ne _ _ (by decide), va_up_self]
  have c_323 : f_12 323 = ai (ca 0) 8 v1_16 := by rw [ef_12, va_up_ne _ _ (by decide), va_up_ne _ _ (by decide), va_up_ne _ _ (by decide), va_up_self]
  have c_322 : f_12 322 = ai (ca 0) 8 h1_17 := by rw [ef_12, va_up_ne _ _ (by decide), va_up_ne _ _ (by decide), va_up_self]
  have c_320 : f_12 320 = ai (ca 1) 36 (mkf m1_7 (rowS (g 15) (n 4) (nI 2) (nI i) y) 32) := by rw [ef_12, va_up_ne _ _ (by decide), va_up_self]
  have c_317 : f_12 317 = ai (ca 1) 6400 (rowB (g 15) (rowS (g 15) (n 4) (nI 2) (nI i) y) (n 4)) := by rw [ef_12, va_up_self]
  refine lv_iload_n hx hb dX6_check_41 rfl (lv_at hl 0 rfl) ?_
  have c_303 : f_12 303 = ai (ca 1) 200 (g 0) := by rw [ef_12, va_up_ne _ _ (by decide), va_up_ne _ _ (by decide), va_up_ne _ _ (by decide), va_up_ne _ _ (by decide), va_up_ne _ _ (by decide), va_up_ne _ _ (by decide), va_up_ne _ _ (by decide), va_up_ne _ _ (by decide), va_up_ne _ _ (by decide), va_up_ne _ _ (by decide), ef_11, va_up_ne _ _ (by decide), ef_1, va_up_ne _ _ (by decide), va_up_ne _ _ (by decide), va_up_ne _ _ (by decide), va_up_ne _ _ (by decide), va_up_ne _ _ (by decide), va_up_ne _ _ (by decide)]; exact c_303
  have c_304 : f_12 304 = ai (ca 1) 4000 (g 1) := by rw [ef_12, va_up_ne _ _ (by decide), va_up_ne _ _ (by decide), va_up_ne _ _ (by decide), va_up_ne _ _ (by decide), va_up_ne _ _ (by decide), va_up_ne _ _ (by decide), va_up_ne _ _ (by decide), va_up_ne _ _ (by decide), va_up_ne _ _ (by decide), va_up_ne _ _ (by decide), ef_11, va_up_ne _ _ (by decide), ef_1, va_up_ne _ _ (by decide), va_up_ne _ _ (by decide), va_up_ne _ _ (by decide), va_up_ne _ _ (by decide), va_up_ne _ _ (by decide), va_up_ne _ _ (by decide)]; exact c_304
  have c_305 : f_12 305 = ai (ca 0) 20 (g 2) := by rw [ef_12, va_up_ne _ _ (by decide), va_up_ne _ _ (by decide), va_up_ne _ _ (by decide), va_up_ne _ _ (by decide), va_up_ne _ _ (by decide), va_up_ne _ _ (by decide), va_up_ne _ _ (by decide), va_up_ne _ _ (by decide), va_up_ne _ _ (by decide), va_up_ne _ _ (by decide), ef_11, va_up_ne _ _ (by decide), ef_1, va_up_ne _ _ (by decide), va_up_ne _ _ (by decide), va_up_ne _ _ (by decide), va_up_ne _ _ (by decide), va_up_ne _ _ (by decide), va_up_ne _ _ (by decide)]; exact c_305
  have c_306 : f_12 306 = ai (ca 0) 20 (g 3) := by rw [ef_12, va_up_ne _ _ (by decide), va_up_ne _ _ (by decide), va_up_ne _ _ (by decide), va_up_ne _ _ (by decide), va_up_ne _ _ (by decide), va_up_ne _ _ (by decide), va_up_ne _ _ (by decide), va_up_ne _ _ (by decide), va_up_ne _ _ (by decide), va_up_ne _ _ (by decide), ef_11, va_up_ne _ _ (by decide), ef_1, va_up_ne _ _ (by decide), va_up_ne _ _ (by decide), va_up_ne _ _ (by decide), va_up_ne _ _ (by decide), va_up_ne _ _ (by decide), va_up_ne _ _ (by decide)]; exact c_306
  have c_307 : f_12 307 = ai (ca 1) 720 (g 4) := by rw [ef_12, va_up_ne _ _ (by decide), va_up_ne _ _ (by decide), va_up_ne _ _ (by decide), va_up_ne _ _ (by decide), va_up_ne _ _ (by decide), va_up_ne _ _ (by decide), va_up_ne _ _ (by decide), va_up_ne _ _ (by decide), va_up_ne _ _ (by decide), va_up_ne _ _ (by decide), ef_11, va_up_ne _ _ (by decide), ef_1, va_up_ne _ _ (by decide), va_up_ne _ _ (by decide), va_up_ne _ _ (by decide), va_up_ne _ _ (by decide), va_up_ne _ _ (by decide), va_up_ne _ _ (by decide)]; exact c_307
  have c_308 : f_12 308 = ai (ca 0) 20 (g 5) := by rw [ef_12, va_up_ne _ _ (by decide), va_up_ne _ _ (by decide), va_up_ne _ _ (by decide), va_up_ne _ _ (by decide), va_up_ne _ _ (by decide), va_up_ne _ _ (by decide), va_up_ne _ _ (by decide), va_up_ne _ _ (by decide), va_up_ne _ _ (by decide), va_up_ne _ _ (by decide)]; exact c_308
  have c_309 : f_12 309 = ai (ca 0) 20 (g 6) := by rw [ef_12, va_up_ne _ _ (by decide), va_up_ne _ _ (by decide), va_up_ne _ _ (by decide), va_up_ne _ _ (by decide), va_up_ne _ _ (by decide), va_up_ne _ _ (by decide), va_up_ne _ _ (by decide), va_up_ne _ _ (by decide), va_up_ne _ _ (by decide), va_up_ne _ _ (by decide), ef_11, va_up_ne _ _ (by decide), ef_1, va_up_ne _ _ (by decide), va_up_ne _ _ (by decide), va_up_ne _ _ (by decide), va_up_ne _ _ (by decide), va_up_ne _ _ (by decide), va_up_ne _ _ (by decide)]; exact c_309
  have c_310 : f_12 310 = ai (ca 0) 20 (g 7) := by rw [ef_12, va_up_ne _ _ (by decide), va_up_ne _ _ (by decide), va_up_ne _ _ (by decide), va_up_ne _ _ (by decide), va_up_ne _ _ (by decide), va_up_ne _ _ (by decide), va_up_ne _ _ (by decide), va_up_ne _ _ (by decide), va_up_ne _ _ (by decide), va_up_ne _ _ (by decide), ef_11, va_up_ne _ _ (by decide), ef_1, va_up_ne _ _ (by decide), va_up_ne _ _ (by decide), va_up_ne _ _ (by decide), va_up_ne _ _ (by decide), va_up_ne _ _ (by decide), va_up_ne _ _ (by decide)]; exact c_310
  have c_311 : f_12 311 = ai (ca 0) 20 (g 8) := by rw [ef_12, va_up_ne _ _ (by decide), va_up_ne _ _ (by decide), va_up_ne _ _ (by decide), va_up_ne _ _ (by decide), va_up_ne _ _ (by decide), va_up_ne _ _ (by decide), va_up_ne _ _ (by decide), va_up_ne _ _ (by decide), va_up_ne _ _ (by decide), va_up_ne _ _ (by decide), ef_11, va_up_ne _ _ (by decide), ef_1, va_up_ne _ _ (by decide), va_up_ne _ _ (by decide), va_up_ne _ _ (by decide), va_up_ne _ _ (by decide), va_up_ne _ _ (by decide), va_up_ne _ _ (by decide)]; exact c_311
  have c_312 : f_12 312 = ai (ca 0) 20 (g 9) := by rw [ef_12, va_up_ne _ _ (by decide), va_up_ne _ _ (by decide), va_up_ne _ _ (by decide), va_up_ne _ _ (by decide), va_up_ne _ _ (by decide), va_up_ne _ _ (by decide), va_up_ne _ _ (by decide), va_up_ne _ _ (by decide), va_up_ne _ _ (by decide), va_up_ne _ _ (by decide), ef_11, va_up_ne _ _ (by decide), ef_1, va_up_ne _ _ (by decide), va_up_ne _ _ (by decide), va_up_ne _ _ (by decide), va_up_ne _ _ (by decide), va_up_ne _ _ (by decide), va_up_ne _ _ (by decide)]; exact c_312
  have c_313 : f_12 313 = ai (ca 2) 20 (g 10) := by rw [ef_12, va_up_ne _ _ (by decide), va_up_ne _ _ (by decide), va_up_ne _ _ (by decide), va_up_ne _ _ (by decide), va_up_ne _ _ (by decide), va_up_ne _ _ (by decide), va_up_ne _ _ (by decide), va_up_ne _ _ (by decide), va_up_ne _ _ (by decide), va_up_ne _ _ (by decide), ef_11, va_up_ne _ _ (by decide), ef_1, va_up_ne _ _ (by decide), va_up_ne _ _ (by decide), va_up_ne _ _ (by decide), va_up_ne _ _ (by decide), va_up_ne _ _ (by decide), va_up_ne _ _ (by decide)]; exact c_313
  have c_318 : f_12 318 = ai (ca 1) 32 (g 16) := by rw [ef_12, va_up_ne _ _ (by decide), va_up_ne _ _ (by decide), va_up_ne _ _ (by decide), va_up_ne _ _ (by decide), va_up_ne _ _ (by decide), va_up_ne _ _ (by decide), va_up_ne _ _ (by decide), va_up_ne _ _ (by decide), va_up_ne _ _ (by decide), va_up_ne _ _ (by decide), ef_11, va_up_ne _ _ (by decide), ef_1, va_up_ne _ _ (by decide), va_up_ne _ _ (by decide), va_up_ne _ _ (by decide), va_up_ne _ _ (by decide), va_up_ne _ _ (by decide), va_up_ne _ _ (by decide)]; exact c_318
  have c_324 : f_12 324 = ai (ca 0) 8 shR := by rw [ef_12, va_up_ne _ _ (by decide), va_up_ne _ _ (by decide), va_up_ne _ _ (by decide), va_up_ne _ _ (by decide), va_up_ne _ _ (by decide), va_up_ne _ _ (by decide), va_up_ne _ _ (by decide), va_up_ne _ _ (by decide), va_up_ne _ _ (by decide), va_up_ne _ _ (by decide)]; exact c_324
  have c_325 : f_12 325 = ai (ca 0) 64 shK := by rw [ef_12, va_up_ne _ _ (by decide), va_up_ne _ _ (by decide), va_up_ne _ _ (by decide), va_up_ne _ _ (by decide), va_up_ne _ _ (by decide), va_up_ne _ _ (by decide), va_up_ne _ _ (by decide), va_up_ne _ _ (by decide), va_up_ne _ _ (by decide), va_up_ne _ _ (by decide)]; exact c_325
  have qn_0 : (va_up n 4 ((n 4) + 1)) 0 = n 0 := by rw [va_up_ne _ _ (by decide)]
  have qn_1 : (va_up n 4 ((n 4) + 1)) 1 = n 1 := by rw [va_up_ne _ _ (by decide)]
  have qn_2 : (va_up n 4 ((n 4) + 1)) 2 = n 2 := by rw [va_up_ne _ _ (by decide)]
  have qn_3 : (va_up n 4 ((n 4) + 1)) 3 = n 3 := by rw [va_up_ne _ _ (by decide)]
  have qn_4 : (va_up n 4 ((n 4) + 1)) 4 = (n 4) + 1 := by rw [va_up_self]
  have qn_5 : (va_up n 4 ((n 4) + 1)) 5 = n 5 := by rw [va_up_ne _ _ (by decide)]
  have qn_6 : (va_up n 4 ((n 4) + 1)) 6 = n 6 := by rw [va_up_ne _ _ (by decide)]
  have qn_7 : (va_up n 4 ((n 4) + 1)) 7 = n 7 := by rw [va_up_ne _ _ (by decide)]
  have qg_0 : (va_up (va_up (va_up (va_up g 11 (upd (g 11) (n 4) (nI 2))) 12 (upd (g 12) (n 4) (nI i))) 14 (upd (g 14) (n 4) y)) 15 (rowB (g 15) (rowS (g 15) (n 4) (nI 2) (nI i) y) (n 4))) 0 = g 0 := by rw [va_up_ne _ _ (by decide), va_up_ne _ _ (by decide), va_up_ne _ _ (by decide), va_up_ne _ _ (by decide)]
  have qg_1 : (va_up (va_up (va_up (va_up g 11 (upd (g 11) (n 4) (nI 2))) 12 (upd (g 12) (n 4) (nI i))) 14 (upd (g 14) (n 4) y)) 15 (rowB (g 15) (rowS (g 15) (n 4) (nI 2) (nI i) y) (n 4))) 1 = g 1 := by rw [va_up_ne _ _ (by decide), va_up_ne _ _ (by decide), va_up_ne _ _ (by decide), va_up_ne _ _ (by decide)]
  have qg_2 : (va_up (va_up (va_up (va_up g 11 (upd (g 11) (n 4) (nI 2))) 12 (upd (g 12) (n 4) (nI i))) 14 (upd (g 14) (n 4) y)) 15 (rowB (g 15) (rowS (g 15) (n 4) (nI 2) (nI i) y) (n 4))) 2 = g 2 := by rw [va_up_ne _ _ (by decide), va_up_ne _ _ (by decide), va_up_ne _ _ (by decide), va_up_ne _ _ (by decide)]
  have qg_3 : (va_up (va_up (va_up (va_up g 11 (upd (g 11) (n 4) (nI 2))) 12 (upd (g 12) (n 4) (nI i))) 14 (upd (g 14) (n 4) y)) 15 (rowB (g 15) (rowS (g 15) (n 4) (nI 2) (nI i) y) (n 4))) 3 = g 3 := by rw [va_up_ne _ _ (by decide), va_up_ne _ _ (by decide), va_up_ne _ _ (by decide), va_up_ne _ _ (by decide)]
  have qg_4 : (va_up (va_up (va_up (va_up g 11 (upd (g 11) (n 4) (nI 2))) 12 (upd (g 12) (n 4) (nI i))) 14 (upd (g 14) (n 4) y)) 15 (rowB (g 15) (rowS (g 15) (n 4) (nI 2) (nI i) y) (n 4))) 4 = g 4 := by rw [va_up_ne _ _ (by decide), va_up_ne _ _ (by decide), va_up_ne _ _ (by decide), va_up_ne _ _ (by decide)]
  have qg_5 : (va_up (va_up (va_up (va_up g 11 (upd (g 11) (n 4) (nI 2))) 12 (upd (g 12) (n 4) (nI i))) 14 (upd (g 14) (n 4) y)) 15 (rowB (g 15) (rowS (g 15) (n 4) (nI 2) (nI i) y) (n 4))) 5 = g 5 := by rw [va_up_ne _ _ (by decide), va_up_ne _ _ (by decide), va_up_ne _ _ (by decide), va_up_ne _ _ (by decide)]
  have qg_6 : (va_up (va_up (va_up (va_up g 11 (upd (g 11) (n 4) (nI 2))) 12 (upd (g 12) (n 4) (nI i))) 14 (upd (g 14) (n 4) y)) 15 (rowB (g 15) (rowS (g 15) (n 4) (nI 2) (nI i) y) (n 4))) 6 = g 6 := by rw [va_up_ne _ _ (by decide), va_up_ne _ _ (by decide), va_up_ne _ _ (by decide), va_up_ne _ _ (by decide)]
  have qg_7 : (va_up (va_up (va_up (va_up g 11 (upd (g 11) (n 4) (nI 2))) 12 (upd (g 12) (n 4) (nI i))) 14 (upd (g 14) (n 4) y)) 15 (rowB (g 15) (rowS (g 15) (n 4) (nI 2) (nI i) y) (n 4))) 7 = g 7 := by rw [va_up_ne _ _ (by decide), va_up_ne _ _ (by decide), va_up_ne _ _ (by decide), va_up_ne _ _ (by decide)]
  have qg_8 : (va_up (va_up (va_up (va_up g 11 (upd (g 11) (n 4) (nI 2))) 12 (upd (g 12) (n 4) (nI i))) 14 (upd (g 14) (n 4) y)) 15 (rowB (g 15) (rowS (g 15) (n 4) (nI 2) (nI i) y) (n 4))) 8 = g 8 := by rw [va_up_ne _ _ (by decide), va_up_ne _ _ (by decide), va_up_ne _ _ (by decide), va_up_ne _ _ (by decide)]
  have qg_9 : (va_up (va_up (va_up (va_up g 11 (upd (g 11) (n 4) (nI 2))) 12 (upd (g 12) (n 4) (nI i))) 14 (upd (g 14) (n 4) y)) 15 (rowB (g 15) (rowS (g 15) (n 4) (nI 2) (nI i) y) (n 4))) 9 = g 9 := by rw [va_up_ne _ _ (by decide), va_up_ne _ _ (by decide), va_up_ne _ _ (by decide), va_up_ne _ _ (by decide)]
  have qg_10 : (va_up (va_up (va_up (va_up g 11 (upd (g 11) (n 4) (nI 2))) 12 (upd (g 12) (n 4) (nI i))) 14 (upd (g 14) (n 4) y)) 15 (rowB (g 15) (rowS (g 15) (n 4) (nI 2) (nI i) y) (n 4))) 10 = g 10 := by rw [va_up_ne _ _ (by decide), va_up_ne _ _ (by decide), va_up_ne _ _ (by decide), va_up_ne _ _ (by decide)]
  have qg_11 : (va_up (va_up (va_up (va_up g 11 (upd (g 11) (n 4) (nI 2))) 12 (upd (g 12) (n 4) (nI i))) 14 (upd (g 14) (n 4) y)) 15 (rowB (g 15) (rowS (g 15) (n 4) (nI 2) (nI i) y) (n 4))) 11 = upd (g 11) (n 4) (nI 2) := by rw [va_up_ne _ _ (by decide), va_up_ne _ _ (by decide), va_up_ne _ _ (by decide), va_up_self]
  have qg_12 : (va_up (va_up (va_up (va_up g 11 (upd (g 11) (n 4) (nI 2))) 12 (upd (g 12) (n 4) (nI i))) 14 (upd (g 14) (n 4) y)) 15 (rowB (g 15) (rowS (g 15) (n 4) (nI 2) (nI i) y) (n 4))) 12 = upd (g 12) (n 4) (nI i) := by rw [va_up_ne _ _ (by decide), va_up_ne _ _ (by decide), va_up_self]
  have qg_13 : (va_up (va_up (va_up (va_up g 11 (upd (g 11) (n 4) (nI 2))) 12 (upd (g 12) (n 4) (nI i))) 14 (upd (g 14) (n 4) y)) 15 (rowB (g 15) (rowS (g 15) (n 4) (nI 2) (nI i) y) (n 4))) 13 = g 13 := by rw [va_up_ne _ _ (by decide), va_up_ne _ _ (by decide), va_up_ne _ _ (by decide), va_up_ne _ _ (by decide)]
  have qg_14 : (va_up (va_up (va_up (va_up g 11 (upd (g 11) (n 4) (nI 2))) 12 (upd (g 12) (n 4) (nI i))) 14 (upd (g 14) (n 4) y)) 15 (rowB (g 15) (rowS (g 15) (n 4) (nI 2) (nI i) y) (n 4))) 14 = upd (g 14) (n 4) y := by rw [va_up_ne _ _ (by decide), va_up_self]
  have qg_15 : (va_up (va_up (va_up (va_up g 11 (upd (g 11) (n 4) (nI 2))) 12 (upd (g 12) (n 4) (nI i))) 14 (upd (g 14) (n 4) y)) 15 (rowB (g 15) (rowS (g 15) (n 4) (nI 2) (nI i) y) (n 4))) 15 = rowB (g 15) (rowS (g 15) (n 4) (nI 2) (nI i) y) (n 4) := by rw [va_up_self]
  have qg_16 : (va_up (va_up (va_up (va_up g 11 (upd (g 11) (n 4) (nI 2))) 12 (upd (g 12) (n 4) (nI i))) 14 (upd (g 14) (n 4) y)) 15 (rowB (g 15) (rowS (g 15) (n 4) (nI 2) (nI i) y) (n 4))) 16 = g 16 := by rw [va_up_ne _ _ (by decide), va_up_ne _ _ (by decide), va_up_ne _ _ (by decide), va_up_ne _ _ (by decide)]
  have qz_0 : (va_up (va_up (va_up (va_up (va_up z 0 b1_14) 1 (mkf m1_7 (rowS (g 15) (n 4) (nI 2) (nI i) y) 32)) 2 w1_15) 3 h1_17) 4 v1_16) 0 = b1_14 := by rw [va_up_ne _ _ (by decide), va_up_ne _ _ (by decide), va_up_ne _ _ (by decide), va_up_ne _ _ (by decide), va_up_self]
  have qz_1 : (va_up (va_up (va_up (va_up (va_up z 0 b1_14) 1 (mkf m1_7 (rowS (g 15) (n 4) (nI 2) (nI i) y) 32)) 2 w1_15) 3 h1_17) 4 v1_16) 1 = mkf m1_7 (rowS (g 15) (n 4) (nI 2) (nI i) y) 32 := by rw [va_up_ne _ _ (by decide), va_up_ne _ _ (by decide), va_up_ne _ _ (by decide), va_up_self]
  have qz_2 : (va_up (va_up (va_up (va_up (va_up z 0 b1_14) 1 (mkf m1_7 (rowS (g 15) (n 4) (nI 2) (nI i) y) 32)) 2 w1_15) 3 h1_17) 4 v1_16) 2 = w1_15 := by rw [va_up_ne _ _ (by decide), va_up_ne _ _ (by decide), va_up_self]
  have qz_3 : (va_up (va_up (va_up (va_up (va_up z 0 b1_14) 1 (mkf m1_7 (rowS (g 15) (n 4) (nI 2) (nI i) y) 32)) 2 w1_15) 3 h1_17) 4 v1_16) 3 = h1_17 := by rw [va_up_ne _ _ (by decide), va_up_self]
  have qz_4 : (va_up (va_up (va_up (va_up (va_up z 0 b1_14) 1 (mkf m1_7 (rowS (g 15) (n 4) (nI 2) (nI i) y) 32)) 2 w1_15) 3 h1_17) 4 v1_16) 4 = v1_16 := by rw [va_up_self]
  have hRz : RepM ca ad (va_up n 4 ((n 4) + 1)) (va_up (va_up (va_up (va_up g 11 (upd (g 11) (n 4) (nI 2))) 12 (upd (g 12) (n 4) (nI i))) 14 (upd (g 14) (n 4) y)) 15 (rowB (g 15) (rowS (g 15) (n 4) (nI 2) (nI i) y) (n 4))) (va_up (va_up (va_up (va_up (va_up z 0 b1_14) 1 (mkf m1_7 (rowS (g 15) (n 4) (nI 2) (nI i) y) 32)) 2 w1_15) 3 h1_17) 4 v1_16) 44 tb f_12 := ⟨(by rw [qn_7, qn_0, qn_1, qn_2, qn_3, qn_4, qn_5, qg_13]; exact c_302),
        (by rw [qg_0]; exact c_303),
        (by rw [qg_1]; exact c_304),
        (by rw [qg_2]; exact c_305),
        (by rw [qg_3]; exact c_306),
        (by rw [qg_4]; exact c_307),
        (by rw [qg_5]; exact c_308),
        (by rw [qg_6]; exact c_309),
        (by rw [qg_7]; exact c_310),
        (by rw [qg_8]; exact c_311),
        (by rw [qg_9]; exact c_312),
        (by rw [qg_10]; exact c_313),
        (by rw [qg_11]; exact c_314),
        (by rw [qg_12]; exact c_315),
        (by rw [qg_14]; exact c_316),
        (by rw [qg_15]; exact c_317),
        (by rw [qg_16]; exact c_318),
        (by rw [qz_0]; exact c_319),
        (by rw [qz_1]; exact c_320),
        (by rw [qz_2]; exact c_321),
        (by rw [qz_3]; exact c_322),
        (by rw [qz_4]; exact c_323),
        c_324,
        c_325, (by first | omega | assumption)⟩
  exact x_zret hx hb hr hlocks hw (by first | exact Or.inl rfl | exact Or.inr rfl) ⟨rfl, va_up (va_up (va_up (va_up (va_up z 0 b1_14) 1 (mkf m1_7 (rowS (g 15) (n 4) (nI 2) (nI i) y) 32)) 2 w1_15) 3 h1_17) 4 v1_16, 44, hRz, (fun y hy => by rw [ef_12, va_up_ne _ _ (by omega), va_up_ne _ _ (by omega), va_up_ne _ _ (by omega), va_up_ne _ _ (by omega), va_up_ne _ _ (by omega), va_up_ne _ _ (by omega), va_up_ne _ _ (by omega), va_up_ne _ _ (by omega), va_up_ne _ _ (by omega), va_up_ne _ _ (by omega), ef_11, va_up_ne _ _ (by omega), ef_1, va_up_ne _ _ (by omega), va_up_ne _ _ (by omega), va_up_ne _ _ (by omega), va_up_ne _ _ (by omega), va_up_ne _ _ (by omega), va_up_ne _ _ (by omega)])⟩ dX6_check_42

set_option maxHeartbeats 4000000 in
set_option maxRecDepth 100000 in
theorem k_X6_check_noF (l : Launch) (D : va_G) (ca : Nat → ClassId) (N : Nat) (ad : Nat → Nat) (B tR tK : Nat) (f : Nat → va_E) (dd : xD N ad B) (hN : 326 ≤ N) (n : Nat → Nat) (g : Nat → Nat → Int32) (z : Nat → Nat → Int32) (zn : Nat) (tb : Nat → Int32) (hR : RepM ca ad n g z zn tb f) (i : Nat) (y : Int32) (zz : Nat) (hi : i < 20) (hz : g 2 i = nI zz) (hz2 : zz ≤ 200) (hr9 : n 4 = 200) (hf : ¬ mFit g i i zz) : xMi l yX6_check wsX6_check rmX6_check [.ref (ad 302), .int (nI i), .int y] D ca N ad B tR tK f (fun r u => nI 0 = r ∧ ∃ (z1 : Nat → Nat → Int32) (zn1 : Nat), RepM ca ad n g z1 zn1 tb u ∧ ∀ y, (y < 302 ∨ 326 ≤ y) → u y = f y) := by
  refine x_open (cc := cX6_check) (maxL := 4) (ret := (some .boolean)) (by decide) rfl (Nat.le_of_ble_eq_true rfl) ?_
  intro p e s m below meth c ls hx hb hml hown hts hr hlocks hnm hB hK hE hw hl
  have hown : s.vm.findClass RX6 = some m.cls := hown
  have hl : lv_has ls 4 [(0, .ref (ad 302)), (1, .int (nI i)), (2, .int y)] := hl
  obtain ⟨c_302, c_303, c_304, c_305, c_306, c_307, c_308, c_309, c_310, c_311, c_312, c_313, c_314, c_315, c_316, c_317, c_318, c_319, c_320, c_321, c_322, c_323, c_324, c_325, hzn⟩ := hR
  have hin_7 : ∀ w ∈ u_ws RX6 TX6 32, w ∈ wsX6_check := by decide +kernel
  have hf_26 := hts (.fieldLink RX6 26 "FixityRowsModel" "fitted" "[I") (by decide +kernel)
  have b_302 := c_302
  have b_303 := c_303
  have b_304 := c_304
  have b_305 := c_305
  have b_306 := c_306
  have b_307 := c_307
  have b_308 := c_308
  have b_309 := c_309
  have b_310 := c_310
  have b_311 := c_311
  have b_312 := c_312
  have b_313 := c_313
  have b_314 := c_314
  have b_315 := c_315
  have b_316 := c_316
  have b_317 := c_317
  have b_318 := c_318
  have b_319 := c_319
  have b_320 := c_320
  have b_321 := c_321
  have b_322 := c_322
  have b_323 := c_323
  have b_324 := c_324
  have b_325 := c_325
  refine lv_aload_n hx hb dX6_check_0 rfl (lv_at hl 0 rfl) ?_
  refine lv_iload_n hx hb dX6_check_1 rfl (lv_at hl 1 rfl) ?_
  refine x_Vi (q := 302) (As := [.int (nI i)]) (rest := []) ⟨hx, hb, hml, hown, hts⟩ (k_X6_fits l D ca N ad B tR tK f dd (n 7) (n 0) (n 1) (n 2) (g 13 0) (n 3) (n 4) (n 5) zn (g 3) (g 4) (z 0) (z 1) (z 2) (z 3) (z 4) (g 1) (g 2) i zz c_302 c_306 c_307 c_319 c_320 c_321 c_322 c_323 c_324 c_325 c_304 c_305  (by omega) (by omega) hz (by omega)) (cwV 1 hts gX6_check_X6_fits rfl rfl rfl (by decide +kernel) ⟨Nat.le_of_ble_eq_true rfl, Nat.le_of_ble_eq_true rfl⟩) hK hE hB hw (by omega) c_302 rfl rfl rfl rfl hl.1 (Nat.le_of_ble_eq_true rfl) ⟨Nat.zero_le _, Nat.zero_le _⟩ dX6_check_2 (fun r_2 f_1 H locs hp hw => ?_)
  obtain ⟨b1_3, w1_4, v1_5, h1_6, m1_7, hq_8, er, eu⟩ := hp
  rw [← er]
  have ef_1 : f_1 = va_up (va_up (va_up (va_up (va_up (va_up f 302 (.inr (7, mO ad (n 7) (n 0) (n 1) (n 2) (g 13 0) (n 3) (n 4) (n 5) zz))) 319 (ai (ca 1) 320 b1_3)) 321 (ai (ca 0) 64 w1_4)) 323 (ai (ca 0) 8 v1_5)) 322 (ai (ca 0) 8 h1_6)) 320 (ai (ca 1) 36 m1_7) := eu
  have c_302 : f_1 302 = .inr (7, mO ad (n 7) (n 0) (n 1) (n 2) (g 13 0) (n 3) (n 4) (n 5) zz) := by rw [ef_1, va_up_ne _ _ (by decide), va_up_ne _ _ (by decide), va_up_ne _ _ (by decide), va_up_ne _ _ (by decide), va_up_ne _ _ (by decide), va_up_self]
  have c_319 : f_1 319 = ai (ca 1) 320 b1_3 := by rw [ef_1, va_up_ne _ _ (by decide), va_up_ne _ _ (by decide), va_up_ne _ _ (by decide), va_up_ne _ _ (by decide), va_up_self]
  have c_321 : f_1 321 = ai (ca 0) 64 w1_4 := by rw [ef_1, va_up_ne _ _ (by decide), va_up_ne _ _ (by decide), va_up_ne _ _ (by decide), va_up_self]
  have c_323 : f_1 323 = ai (ca 0) 8 v1_5 := by rw [ef_1, va_up_ne _ _ (by decide), va_up_ne _ _ (by decide), va_up_self]
  have c_322 : f_1 322 = ai (ca 0) 8 h1_6 := by rw [ef_1, va_up_ne _ _ (by decide), va_up_self]
  have c_320 : f_1 320 = ai (ca 1) 36 m1_7 := by rw [ef_1, va_up_self]
  rw [bI_f (show ¬ hasM (g 4) i (sha zz (fun x => g 1 (200 * i + x) &&& nI 255)) (crM (fun x => g 1 (200 * i + x)) zz ^^^ (-1)) (g 3 i) from hf)]
  refine lv_istore_n (lv' := [(3, .int (nI 0)), (0, .ref (ad 302)), (1, .int (nI i)), (2, .int y)]) hx hb dX6_check_5 rfl hl (by decide) rfl (fun ls hl => ?_)
  refine lv_aload_n hx hb dX6_check_6 rfl (lv_at hl 1 rfl) ?_
  refine x_get (ci := 7) (C := RX6) (T := TX6) (n := 32) (ref := RX6) hx hb hts hin_7 hown hK hw 302 (by omega) c_302 rfl 9 (by decide) hf_26 (fun _ h => h) rfl dX6_check_7 ?_
  refine lv_iload_n hx hb dX6_check_10 rfl (lv_at hl 2 rfl) ?_
  refine lv_iload_n hx hb dX6_check_11 rfl (lv_at hl 0 rfl) ?_
  refine lv_if_eq (tgt := 19) hx hb dX6_check_12 (by decide) (fun _ => ?_) (fun h => False.elim (h (by decide)))
  refine lv_aload_n hx hb dX6_check_19 rfl (lv_at hl 1 rfl) ?_
  refine x_get (ci := 7) (C := RX6) (T := TX6) (n := 32) (ref := RX6) hx hb hts hin_7 hown hK hw 302 (by omega) c_302 rfl 9 (by decide) hf_26 (fun _ h => h) rfl dX6_check_20 ?_
  refine lv_iload_n hx hb dX6_check_23 rfl (lv_at hl 2 rfl) ?_
  have c_308 : f_1 308 = ai (ca 0) 20 (g 5) := by rw [ef_1, va_up_ne _ _ (by decide), va_up_ne _ _ (by decide), va_up_ne _ _ (by decide), va_up_ne _ _ (by decide), va_up_ne _ _ (by decide), va_up_ne _ _ (by decide)]; exact c_308
  refine x_iald (j := i) hx hb hK hw 308 0 (by omega) c_308 rfl rfl (by omega) (by decide) dX6_check_24 ?_
  refine lv_topi (fun x_9 ex_9 => ?_)
  refine x_iast (j := i) hx hb hK dd hw 308 0 (by omega) c_308 rfl rfl (by omega) (by decide) dX6_check_25 (fun H locs hw => ?_)
  obtain ⟨f_10, ef_10⟩ : ∃ z, z = va_up f_1 308 (ai (ca 0) 20 (upd (g 5) i x_9)) := ⟨_, rfl⟩
  have hw : xw D vwCl N ad B s.heap f_10 H locs := by rw [ef_10]; exact hw
  have c_308 : f_10 308 = ai (ca 0) 20 (upd (g 5) i x_9) := va_up_of ef_10
  obtain ⟨f_11, ef_11⟩ : ∃ z, z = va_up f_1 308 (ai (ca 0) 20 (g 5)) := ⟨_, rfl⟩
  have hw : xw D vwCl N ad B s.heap f_11 H locs := by rw [ef_11]; exact xw.arr (by rw [← ef_10]; exact hw) (fun j hj => by rw [ex_9]; exact upd_id _ _ _)
  have c_308 : f_11 308 = ai (ca 0) 20 (g 5) := va_up_of ef_11
  refine lv_aload_n hx hb dX6_check_26 rfl (lv_at hl 1 rfl) ?_
  refine lv_iload_n hx hb dX6_check_27 rfl (lv_at hl 0 rfl) ?_
  refine lv_if_eq (tgt := 35) hx hb dX6_check_28 (by decide) (fun _ => ?_) (fun h => False.elim (h (by decide)))
  refine lv_iconst (v := nI 2) hx hb dX6_check_35 (by decide) ?_
  refine lv_iload_n hx hb dX6_check_36 rfl (lv_at hl 2 rfl) ?_
  refine lv_iload_n hx hb dX6_check_37 rfl (lv_at hl 3 rfl) ?_
  have c_302 : f_11 302 = .inr (7, mO ad (n 7) (n 0) (n 1) (n 2) (g 13 0) (n 3) (n 4) (n 5) zz) := by rw [ef_11, va_up_ne _ _ (by decide)]; exact c_302
  refine x_Vv (q := 302) (As := [.int (nI 2), .int (nI i), .int y]) (rest := []) ⟨hx, hb, hml, hown, hts⟩ (k_X6_enter_full l D ca N ad B tR tK f_11 dd (n 7) (n 0) (n 1) (n 2) (g 13 0) (n 3) (n 4) (n 5) zz (nI 2) (nI i) y c_302  (by omega) (by omega)) (cwV 3 hts gX6_check_X6_enter rfl rfl rfl (by decide +kernel) ⟨Nat.le_of_ble_eq_true rfl, Nat.le_of_ble_eq_true rfl⟩) hK hE hB hw (by omega) c_302 rfl rfl rfl rfl hl.1 (Nat.le_of_ble_eq_true rfl) ⟨Nat.zero_le _, Nat.zero_le _⟩ dX6_check_38 (fun f_12 H locs hp hw => ?_)
  have eu := hp
  rw [← eu] at hw
  refine lv_iload_n hx hb dX6_check_41 rfl (lv_at hl 0 rfl) ?_
  have c_303 : f_11 303 = ai (ca 1) 200 (g 0) := by rw [ef_11, va_up_ne _ _ (by decide), ef_1, va_up_ne _ _ (by decide), va_up_ne _ _ (by decide), va_up_ne _ _ (by decide), va_up_ne _ _ (by decide), va_up_ne _ _ (by decide), va_up_ne _ _ (by decide)]; exact c_303
  have c_304 : f_11 304 = ai (ca 1) 4000 (g 1) := by rw [ef_11, va_up_ne _ _ (by decide), ef_1, va_up_ne _ _ (by decide), va_up_ne _ _ (by decide), va_up_ne _ _ (by decide), va_up_ne _ _ (by decide), va_up_ne _ _ (by decide), va_up_ne _ _ (by decide)]; exact c_304
  have c_305 : f_11 305 = ai (ca 0) 20 (g 2) := by rw [ef_11, va_up_ne _ _ (by decide), ef_1, va_up_ne _ _ (by decide), va_up_ne _ _ (by decide), va_up_ne _ _ (by decide), va_up_ne _ _ (by decide), va_up_ne _ _ (by decide), va_up_ne _ _ (by decide)]; exact c_305
  have c_306 : f_11 306 = ai (ca 0) 20 (g 3) := by rw [ef_11, va_up_ne _ _ (by decide), ef_1, va_up_ne _ _ (by decide), va_up_ne _ _ (by decide), va_up_ne _ _ (by decide), va_up_ne _ _ (by decide), va_up_ne _ _ (by decide), va_up_ne _ _ (by decide)]; exact c_306
  have c_307 : f_11 307 = ai (ca 1) 720 (g 4) := by rw [ef_11, va_up_ne _ _ (by decide), ef_1, va_up_ne _ _ (by decide), va_up_ne _ _ (by decide), va_up_ne _ _ (by decide), va_up_ne _ _ (by decide), va_up_ne _ _ (by decide), va_up_ne _ _ (by decide)]; exact c_307
  have c_309 : f_11 309 = ai (ca 0) 20 (g 6) := by rw [ef_11, va_up_ne _ _ (by decide), ef_1, va_up_ne _ _ (by decide), va_up_ne _ _ (by decide), va_up_ne _ _ (by decide), va_up_ne _ _ (by decide), va_up_ne _ _ (by decide), va_up_ne _ _ (by decide)]; exact c_309
  have c_310 : f_11 310 = ai (ca 0) 20 (g 7) := by rw [ef_11, va_up_ne _ _ (by decide), ef_1, va_up_ne _ _ (by decide), va_up_ne _ _ (by decide), va_up_ne _ _ (by decide), va_up_ne _ _ (by decide), va_up_ne _ _ (by decide), va_up_ne _ _ (by decide)]; exact c_310
  have c_311 : f_11 311 = ai (ca 0) 20 (g 8) := by rw [ef_11, va_up_ne _ _ (by decide), ef_1, va_up_ne _ _ (by decide), va_up_ne _ _ (by decide), va_up_ne _ _ (by decide), va_up_ne _ _ (by decide), va_up_ne _ _ (by decide), va_up_ne _ _ (by decide)]; exact c_311
  have c_312 : f_11 312 = ai (ca 0) 20 (g 9) := by rw [ef_11, va_up_ne _ _ (by decide), ef_1, va_up_ne _ _ (by decide), va_up_ne _ _ (by decide), va_up_ne _ _ (by decide), va_up_ne _ _ (by decide), va_up_ne _ _ (by decide), va_up_ne _ _ (by decide)]; exact c_312
  have c_313 : f_11 313 = ai (ca 2) 20 (g 10) := by rw [ef_11, va_up_ne _ _ (by decide), ef_1, va_up_ne _ _ (by decide), va_up_ne _ _ (by decide), va_up_ne _ _ (by decide), va_up_ne _ _ (by decide), va_up_ne _ _ (by decide), va_up_ne _ _ (by decide)]; exact c_313
  have c_314 : f_11 314 = ai (ca 0) 200 (g 11) := by rw [ef_11, va_up_ne _ _ (by decide), ef_1, va_up_ne _ _ (by decide), va_up_ne _ _ (by decide), va_up_ne _ _ (by decide), va_up_ne _ _ (by decide), va_up_ne _ _ (by decide), va_up_ne _ _ (by decide)]; exact c_314
  have c_315 : f_11 315 = ai (ca 0) 200 (g 12) := by rw [ef_11, va_up_ne _ _ (by decide), ef_1, va_up_ne _ _ (by decide), va_up_ne _ _ (by decide), va_up_ne _ _ (by decide), va_up_ne _ _ (by decide), va_up_ne _ _ (by decide), va_up_ne _ _ (by decide)]; exact c_315
  have c_316 : f_11 316 = ai (ca 0) 200 (g 14) := by rw [ef_11, va_up_ne _ _ (by decide), ef_1, va_up_ne _ _ (by decide), va_up_ne _ _ (by decide), va_up_ne _ _ (by decide), va_up_ne _ _ (by decide), va_up_ne _ _ (by decide), va_up_ne _ _ (by decide)]; exact c_316
  have c_317 : f_11 317 = ai (ca 1) 6400 (g 15) := by rw [ef_11, va_up_ne _ _ (by decide), ef_1, va_up_ne _ _ (by decide), va_up_ne _ _ (by decide), va_up_ne _ _ (by decide), va_up_ne _ _ (by decide), va_up_ne _ _ (by decide), va_up_ne _ _ (by decide)]; exact c_317
  have c_318 : f_11 318 = ai (ca 1) 32 (g 16) := by rw [ef_11, va_up_ne _ _ (by decide), ef_1, va_up_ne _ _ (by decide), va_up_ne _ _ (by decide), va_up_ne _ _ (by decide), va_up_ne _ _ (by decide), va_up_ne _ _ (by decide), va_up_ne _ _ (by decide)]; exact c_318
  have c_319 : f_11 319 = ai (ca 1) 320 b1_3 := by rw [ef_11, va_up_ne _ _ (by decide)]; exact c_319
  have c_320 : f_11 320 = ai (ca 1) 36 m1_7 := by rw [ef_11, va_up_ne _ _ (by decide)]; exact c_320
  have c_321 : f_11 321 = ai (ca 0) 64 w1_4 := by rw [ef_11, va_up_ne _ _ (by decide)]; exact c_321
  have c_322 : f_11 322 = ai (ca 0) 8 h1_6 := by rw [ef_11, va_up_ne _ _ (by decide)]; exact c_322
  have c_323 : f_11 323 = ai (ca 0) 8 v1_5 := by rw [ef_11, va_up_ne _ _ (by decide)]; exact c_323
  have c_324 : f_11 324 = ai (ca 0) 8 shR := by rw [ef_11, va_up_ne _ _ (by decide), ef_1, va_up_ne _ _ (by decide), va_up_ne _ _ (by decide), va_up_ne _ _ (by decide), va_up_ne _ _ (by decide), va_up_ne _ _ (by decide), va_up_ne _ _ (by decide)]; exact c_324
  have c_325 : f_11 325 = ai (ca 0) 64 shK := by rw [ef_11, va_up_ne _ _ (by decide), ef_1, va_up_ne _ _ (by decide), va_up_ne _ _ (by decide), va_up_ne _ _ (by decide), va_up_ne _ _ (by decide), va_up_ne _ _ (by decide), va_up_ne _ _ (by decide)]; exact c_325
  have qz_0 : (va_up (va_up (va_up (va_up (va_up z 0 b1_3) 1 m1_7) 2 w1_4) 3 h1_6) 4 v1_5) 0 = b1_3 := by rw [va_up_ne _ _ (by decide), va_up_ne _ _ (by decide), va_up_ne _ _ (by decide), va_up_ne _ _ (by decide), va_up_self]
  have qz_1 : (va_up (va_up (va_up (va_up (va_up z 0 b1_3) 1 m1_7) 2 w1_4) 3 h1_6) 4 v1_5) 1 = m1_7 := by rw [va_up_ne _ _ (by decide), va_up_ne _ _ (by decide), va_up_ne _ _ (by decide), va_up_self]
  have qz_2 : (va_up (va_up (va_up (va_up (va_up z 0 b1_3) 1 m1_7) 2 w1_4) 3 h1_6) 4 v1_5) 2 = w1_4 := by rw [va_up_ne _ _ (by decide), va_up_ne _ _ (by decide), va_up_self]
  have qz_3 : (va_up (va_up (va_up (va_up (va_up z 0 b1_3) 1 m1_7) 2 w1_4) 3 h1_6) 4 v1_5) 3 = h1_6 := by rw [va_up_ne _ _ (by decide), va_up_self]
  have qz_4 : (va_up (va_up (va_up (va_up (va_up z 0 b1_3) 1 m1_7) 2 w1_4) 3 h1_6) 4 v1_5) 4 = v1_5 := by rw [va_up_self]
  have hRz : RepM ca ad n g (va_up (va_up (va_up (va_up (va_up z 0 b1_3) 1 m1_7) 2 w1_4) 3 h1_6) 4 v1_5) zz tb f_11 := ⟨c_302,
        c_303,
        c_304,
        c_305,
        c_306,
        c_307,
        c_308,
        c_309,
        c_310,
        c_311,
        c_312,
        c_313,
        c_314,
        c_315,
        c_316,
        c_317,
        c_318,
        (by rw [qz_0]; exact c_319),
        (by rw [qz_1]; exact c_320),
        (by rw [qz_2]; exact c_321),
        (by rw [qz_3]; exact c_322),
        (by rw [qz_4]; exact c_323),
        c_324,
        c_325, (by first | omega | assumption)⟩
  exact x_zret hx hb hr hlocks hw (by first | exact Or.inl rfl | exact Or.inr rfl) ⟨rfl, va_up (va_up (va_up (va_up (va_up z 0 b1_3) 1 m1_7) 2 w1_4) 3 h1_6) 4 v1_5, zz, hRz, (fun y hy => by rw [ef_11, va_up_ne _ _ (by omega), ef_1, va_up_ne _ _ (by omega), va_up_ne _ _ (by omega), va_up_ne _ _ (by omega), va_up_ne _ _ (by omega), va_up_ne _ _ (by omega), va_up_ne _ _ (by omega)])⟩ dX6_check_42

abbrev rmX6_read : Room := { frames := 7, cells := 0, slots := 0, locals := 161 }

set_option maxHeartbeats 4000000 in
set_option maxRecDepth 100000 in
theorem k_X6_read_nofile (l : Launch) (D : va_G) (ca : Nat → ClassId) (N : Nat) (ad : Nat → Nat) (B tR tK : Nat) (f : Nat → va_E) (dd : xD N ad B) (hN : 326 ≤ N) (n : Nat → Nat) (g : Nat → Nat → Int32) (z : Nat → Nat → Int32) (zn : Nat) (tb : Nat → Int32) (hR : RepM ca ad n g z zn tb f) (x : Int32) (y : Int32) (h2 : n 2 ≤ 20) (ho : x < 0 ∨ nI (n 2) ≤ x) : xMi l yX6_read wsX6_read rmX6_read [.ref (ad 302), .int x, .int y] D ca N ad B tR tK f (fun r u => (-1) = r ∧ ∃ (z1 : Nat → Nat → Int32) (zn1 : Nat), RepM ca ad (va_up n 7 0) g z1 zn1 tb u ∧ ∀ y, (y < 302 ∨ 326 ≤ y) → u y = f y) := by
  refine x_open (cc := cX6_read) (maxL := 3) (ret := (some .int)) (by decide) rfl (Nat.le_of_ble_eq_true rfl) ?_
  intro p e s m below meth c ls hx hb hml hown hts hr hlocks hnm hB hK hE hw hl
  have hown : s.vm.findClass RX6 = some m.cls := hown
  have hl : lv_has ls 3 [(0, .ref (ad 302)), (1, .int x), (2, .int y)] := hl
  obtain ⟨c_302, c_303, c_304, c_305, c_306, c_307, c_308, c_309, c_310, c_311, c_312, c_313, c_314, c_315, c_316, c_317, c_318, c_319, c_320, c_321, c_322, c_323, c_324, c_325, hzn⟩ := hR
  have hin_7 : ∀ w ∈ u_ws RX6 TX6 32, w ∈ wsX6_read := by decide +kernel
  have hf_160 := hts (.fieldLink RX6 160 "FixityRowsModel" "thrown" "I") (by decide +kernel)
  have b_302 := c_302
  have b_303 := c_303
  have b_304 := c_304
  have b_305 := c_305
  have b_306 := c_306
  have b_307 := c_307
  have b_308 := c_308
  have b_309 := c_309
  have b_310 := c_310
  have b_311 := c_311
  have b_312 := c_312
  have b_313 := c_313
  have b_314 := c_314
  have b_315 := c_315
  have b_316 := c_316
  have b_317 := c_317
  have b_318 := c_318
  have b_319 := c_319
  have b_320 := c_320
  have b_321 := c_321
  have b_322 := c_322
  have b_323 := c_323
  have b_324 := c_324
  have b_325 := c_325
  refine lv_aload_n hx hb dX6_read_0 rfl (lv_at hl 0 rfl) ?_
  refine lv_iconst (v := nI 0) hx hb dX6_read_1 (by decide) ?_
  refine x_put (ci := 7) (C := RX6) (T := TX6) (n := 32) (ref := RX6) (fs' := mO ad 0 (n 0) (n 1) (n 2) (g 13 0) (n 3) (n 4) (n 5) zn) hx hb hts hin_7 tyX6 tyX6_ok nmX6 hown hK dd hw 302 (by omega) c_302 rfl 0 (by decide) hf_160 (fun _ h => h) rfl rfl rfl (Nat.le_of_ble_eq_true rfl) rfl dX6_read_2 (fun H locs hw => ?_)
  obtain ⟨f_1, ef_1⟩ : ∃ z, z = va_up f 302 (.inr (7, mO ad 0 (n 0) (n 1) (n 2) (g 13 0) (n 3) (n 4) (n 5) zn)) := ⟨_, rfl⟩
  have hw : xw D vwCl N ad B s.heap f_1 H locs := by rw [ef_1]; exact hw
  have c_302 : f_1 302 = .inr (7, mO ad 0 (n 0) (n 1) (n 2) (g 13 0) (n 3) (n 4) (n 5) zn) := va_up_of ef_1
  refine lv_aload_n hx hb dX6_read_5 rfl (lv_at hl 0 rfl) ?_
  refine lv_iload_n hx hb dX6_read_6 rfl (lv_at hl 1 rfl) ?_
  have c_303 : f_1 303 = ai (ca 1) 200 (g 0) := by rw [ef_1, va_up_ne _ _ (by decide)]; exact c_303
  have c_304 : f_1 304 = ai (ca 1) 4000 (g 1) := by rw [ef_1, va_up_ne _ _ (by decide)]; exact c_304
  have c_305 : f_1 305 = ai (ca 0) 20 (g 2) := by rw [ef_1, va_up_ne _ _ (by decide)]; exact c_305
  have c_306 : f_1 306 = ai (ca 0) 20 (g 3) := by rw [ef_1, va_up_ne _ _ (by decide)]; exact c_306
  have c_307 : f_1 307 = ai (ca 1) 720 (g 4) := by rw [ef_1, va_up_ne _ _ (by decide)]; exact c_307
  have c_308 : f_1 308 = ai (ca 0) 20 (g 5) := by rw [ef_1, va_up_ne _ _ (by decide)]; exact c_308
  have c_309 : f_1 309 = ai (ca 0) 20 (g 6) := by rw [ef_1, va_up_ne _ _ (by decide)]; exact c_309
  have c_310 : f_1 310 = ai (ca 0) 20 (g 7) := by rw [ef_1, va_up_ne _ _ (by decide)]; exact c_310
  have c_311 : f_1 311 = ai (ca 0) 20 (g 8) := by rw [ef_1, va_up_ne _ _ (by decide)]; exact c_311
  have c_312 : f_1 312 = ai (ca 0) 20 (g 9) := by rw [ef_1, va_up_ne _ _ (by decide)]; exact c_312
  have c_313 : f_1 313 = ai (ca 2) 20 (g 10) := by rw [ef_1, va_up_ne _ _ (by decide)]; exact c_313
  have c_314 : f_1 314 = ai (ca 0) 200 (g 11) := by rw [ef_1, va_up_ne _ _ (by decide)]; exact c_314
  have c_315 : f_1 315 = ai (ca 0) 200 (g 12) := by rw [ef_1, va_up_ne _ _ (by decide)]; exact c_315
  have c_316 : f_1 316 = ai (ca 0) 200 (g 14) := by rw [ef_1, va_up_ne _ _ (by decide)]; exact c_316
  have c_317 : f_1 317 = ai (ca 1) 6400 (g 15) := by rw [ef_1, va_up_ne _ _ (by decide)]; exact c_317
  have c_318 : f_1 318 = ai (ca 1) 32 (g 16) := by rw [ef_1, va_up_ne _ _ (by decide)]; exact c_318
  have c_319 : f_1 319 = ai (ca 1) 320 (z 0) := by rw [ef_1, va_up_ne _ _ (by decide)]; exact c_319
  have c_320 : f_1 320 = ai (ca 1) 36 (z 1) := by rw [ef_1, va_up_ne _ _ (by decide)]; exact c_320
  have c_321 : f_1 321 = ai (ca 0) 64 (z 2) := by rw [ef_1, va_up_ne _ _ (by decide)]; exact c_321
  have c_322 : f_1 322 = ai (ca 0) 8 (z 3) := by rw [ef_1, va_up_ne _ _ (by decide)]; exact c_322
  have c_323 : f_1 323 = ai (ca 0) 8 (z 4) := by rw [ef_1, va_up_ne _ _ (by decide)]; exact c_323
  have c_324 : f_1 324 = ai (ca 0) 8 shR := by rw [ef_1, va_up_ne _ _ (by decide)]; exact c_324
  have c_325 : f_1 325 = ai (ca 0) 64 shK := by rw [ef_1, va_up_ne _ _ (by decide)]; exact c_325
  have qn_0 : (va_up n 7 0) 0 = n 0 := by rw [va_up_ne _ _ (by decide)]
  have qn_1 : (va_up n 7 0) 1 = n 1 := by rw [va_up_ne _ _ (by decide)]
  have qn_2 : (va_up n 7 0) 2 = n 2 := by rw [va_up_ne _ _ (by decide)]
  have qn_3 : (va_up n 7 0) 3 = n 3 := by rw [va_up_ne _ _ (by decide)]
  have qn_4 : (va_up n 7 0) 4 = n 4 := by rw [va_up_ne _ _ (by decide)]
  have qn_5 : (va_up n 7 0) 5 = n 5 := by rw [va_up_ne _ _ (by decide)]
  have qn_6 : (va_up n 7 0) 6 = n 6 := by rw [va_up_ne _ _ (by decide)]
  have qn_7 : (va_up n 7 0) 7 = 0 := by rw [va_up_self]
  have hRk : RepM ca ad (va_up n 7 0) g z zn tb f_1 := ⟨(by rw [qn_7, qn_0, qn_1, qn_2, qn_3, qn_4, qn_5]; exact c_302),
        c_303,
        c_304,
        c_305,
        c_306,
        c_307,
        c_308,
        c_309,
        c_310,
        c_311,
        c_312,
        c_313,
        c_314,
        c_315,
        c_316,
        c_317,
        c_318,
        c_319,
        c_320,
        c_321,
        c_322,
        c_323,
        c_324,
        c_325, hzn⟩
  have hfr : ∀ y, (y < 302 ∨ 326 ≤ y) → f_1 y = f y := (fun y hy => by rw [ef_1, va_up_ne _ _ (by omega)])
  refine x_Vi (q := 302) (As := [.int x]) (rest := []) ⟨hx, hb, hml, hown, hts⟩ (k_X6_isFile_no l D ca N ad B tR tK f_1 dd hN (va_up n 7 0) g z zn tb hRk x (by omega) ho) (cwV 1 hts gX6_read_X6_isFile rfl rfl rfl (by decide +kernel) ⟨Nat.le_of_ble_eq_true rfl, Nat.le_of_ble_eq_true rfl⟩) hK hE hB hw (by omega) c_302 rfl rfl rfl rfl hl.1 (Nat.le_of_ble_eq_true rfl) ⟨Nat.zero_le _, Nat.zero_le _⟩ dX6_read_7 (fun r_3 f_2 H locs hp hw => ?_)
  obtain ⟨er, hp⟩ := hp
  rw [← er]
  rw [← hp] at hw
  refine lv_if_ne (tgt := 15) hx hb dX6_read_10 (by decide) (fun h => False.elim (h (by decide))) (fun _ => ?_)
  refine lv_iconst (v := (-1)) hx hb dX6_read_13 (by decide) ?_
  have qn_0 : (va_up n 7 0) 0 = n 0 := by rw [va_up_ne _ _ (by decide)]
  have qn_1 : (va_up n 7 0) 1 = n 1 := by rw [va_up_ne _ _ (by decide)]
  have qn_2 : (va_up n 7 0) 2 = n 2 := by rw [va_up_ne _ _ (by decide)]
  have qn_3 : (va_up n 7 0) 3 = n 3 := by rw [va_up_ne _ _ (by decide)]
  have qn_4 : (va_up n 7 0) 4 = n 4 := by rw [va_up_ne _ _ (by decide)]
  have qn_5 : (va_up n 7 0) 5 = n 5 := by rw [va_up_ne _ _ (by decide)]
  have qn_6 : (va_up n 7 0) 6 = n 6 := by rw [va_up_ne _ _ (by decide)]
  have qn_7 : (va_up n 7 0) 7 = 0 := by rw [va_up_self]
  have hRz : RepM ca ad (va_up n 7 0) g z zn tb f_1 := ⟨(by rw [qn_7, qn_0, qn_1, qn_2, qn_3, qn_4, qn_5]; exact c_302),
        c_303,
        c_304,
        c_305,
        c_306,
        c_307,
        c_308,
        c_309,
        c_310,
        c_311,
        c_312,
        c_313,
        c_314,
        c_315,
        c_316,
        c_317,
        c_318,
        c_319,
        c_320,
        c_321,
        c_322,
        c_323,
        c_324,
        c_325, hzn⟩
  exact x_iret hx hb hr hlocks hw ⟨rfl, z, zn, hRz, (fun y hy => by rw [ef_1, va_up_ne _ _ (by omega)])⟩ dX6_read_14

set_option maxHeartbeats 4000000 in
set_option maxRecDepth 100000 in
theorem k_X6_read_day (l : Launch) (D : va_G) (ca : Nat → ClassId) (N : Nat) (ad : Nat → Nat) (B tR tK : Nat) (f : Nat → va_E) (dd : xD N ad B) (hN : 326 ≤ N) (n : Nat → Nat) (g : Nat → Nat → Int32) (z : Nat → Nat → Int32) (zn : Nat) (tb : Nat → Int32) (hR : RepM ca ad n g z zn tb f) (i : Nat) (y : Int32) (h2 : n 2 ≤ 20) (hi : i < n 2) (ho : y < 0 ∨ nI 1000000 < y) : xMi l yX6_read wsX6_read rmX6_read [.ref (ad 302), .int (nI i), .int y] D ca N ad B tR tK f (fun r u => (-2) = r ∧ ∃ (z1 : Nat → Nat → Int32) (zn1 : Nat), RepM ca ad (va_up n 7 0) g z1 zn1 tb u ∧ ∀ y, (y < 302 ∨ 326 ≤ y) → u y = f y) := by
  refine x_open (cc := cX6_read) (maxL := 3) (ret := (some .int)) (by decide) rfl (Nat.le_of_ble_eq_true rfl) ?_
  intro p e s m below meth c ls hx hb hml hown hts hr hlocks hnm hB hK hE hw hl
  have hown : s.vm.findClass RX6 = some m.cls := hown
  have hl : lv_has ls 3 [(0, .ref (ad 302)), (1, .int (nI i)), (2, .int y)] := hl
  obtain ⟨c_302, c_303, c_304, c_305, c_306, c_307, c_308, c_309, c_310, c_311, c_312, c_313, c_314, c_315, c_316, c_317, c_318, c_319, c_320, c_321, c_322, c_323, c_324, c_325, hzn⟩ := hR
  have hin_7 : ∀ w ∈ u_ws RX6 TX6 32, w ∈ wsX6_read := by decide +kernel
  have hf_160 := hts (.fieldLink RX6 160 "FixityRowsModel" "thrown" "I") (by decide +kernel)
  have b_302 := c_302
  have b_303 := c_303
  have b_304 := c_304
  have b_305 := c_305
  have b_306 := c_306
  have b_307 := c_307
  have b_308 := c_308
  have b_309 := c_309
  have b_310 := c_310
  have b_311 := c_311
  have b_312 := c_312
  have b_313 := c_313
  have b_314 := c_314
  have b_315 := c_315
  have b_316 := c_316
  have b_317 := c_317
  have b_318 := c_318
  have b_319 := c_319
  have b_320 := c_320
  have b_321 := c_321
  have b_322 := c_322
  have b_323 := c_323
  have b_324 := c_324
  have b_325 := c_325
  refine lv_aload_n hx hb dX6_read_0 rfl (lv_at hl 0 rfl) ?_
  refine lv_iconst (v := nI 0) hx hb dX6_read_1 (by decide) ?_
  refine x_put (ci := 7) (C := RX6) (T := TX6) (n := 32) (ref := RX6) (fs' := mO ad 0 (n 0) (n 1) (n 2) (g 13 0) (n 3) (n 4) (n 5) zn) hx hb hts hin_7 tyX6 tyX6_ok nmX6 hown hK dd hw 302 (by omega) c_302 rfl 0 (by decide) hf_160 (fun _ h => h) rfl rfl rfl (Nat.le_of_ble_eq_true rfl) rfl dX6_read_2 (fun H locs hw => ?_)
  obtain ⟨f_1, ef_1⟩ : ∃ z, z = va_up f 302 (.inr (7, mO ad 0 (n 0) (n 1) (n 2) (g 13 0) (n 3) (n 4) (n 5) zn)) := ⟨_, rfl⟩
  have hw : xw D vwCl N ad B s.heap f_1 H locs := by rw [ef_1]; exact hw
  have c_302 : f_1 302 = .inr (7, mO ad 0 (n 0) (n 1) (n 2) (g 13 0) (n 3) (n 4) (n 5) zn) := va_up_of ef_1
  refine lv_aload_n hx hb dX6_read_5 rfl (lv_at hl 0 rfl) ?_
  refine lv_iload_n hx hb dX6_read_6 rfl (lv_at hl 1 rfl) ?_
  have c_303 : f_1 303 = ai (ca 1) 200 (g 0) := by rw [ef_1, va_up_ne _ _ (by decide)]; exact c_303
  have c_304 : f_1 304 = ai (ca 1) 4000 (g 1) := by rw [ef_1, va_up_ne _ _ (by decide)]; exact c_304
  have c_305 : f_1 305 = ai (ca 0) 20 (g 2) := by rw [ef_1, va_up_ne _ _ (by decide)]; exact c_305
  have c_306 : f_1 306 = ai (ca 0) 20 (g 3) := by rw [ef_1, va_up_ne _ _ (by decide)]; exact c_306
  have c_307 : f_1 307 = ai (ca 1) 720 (g 4) := by rw [ef_1, va_up_ne _ _ (by decide)]; exact c_307
  have c_308 : f_1 308 = ai (ca 0) 20 (g 5) := by rw [ef_1, va_up_ne _ _ (by decide)]; exact c_308
  have c_309 : f_1 309 = ai (ca 0) 20 (g 6) := by rw [ef_1, va_up_ne _ _ (by decide)]; exact c_309
  have c_310 : f_1 310 = ai (ca 0) 20 (g 7) := by rw [ef_1, va_up_ne _ _ (by decide)]; exact c_310
  have c_311 : f_1 311 = ai (ca 0) 20 (g 8) := by rw [ef_1, va_up_ne _ _ (by decide)]; exact c_311
  have c_312 : f_1 312 = ai (ca 0) 20 (g 9) := by rw [ef_1, va_up_ne _ _ (by decide)]; exact c_312
  have c_313 : f_1 313 = ai (ca 2) 20 (g 10) := by rw [ef_1, va_up_ne _ _ (by decide)]; exact c_313
  have c_314 : f_1 314 = ai (ca 0) 200 (g 11) := by rw [ef_1, va_up_ne _ _ (by decide)]; exact c_314
  have c_315 : f_1 315 = ai (ca 0) 200 (g 12) := by rw [ef_1, va_up_ne _ _ (by decide)]; exact c_315
  have c_316 : f_1 316 = ai (ca 0) 200 (g 14) := by rw [ef_1, va_up_ne _ _ (by decide)]; exact c_316
  have c_317 : f_1 317 = ai (ca 1) 6400 (g 15) := by rw [ef_1, va_up_ne _ _ (by decide)]; exact c_317
  have c_318 : f_1 318 = ai (ca 1) 32 (g 16) := by rw [ef_1, va_up_ne _ _ (by decide)]; exact c_318
  have c_319 : f_1 319 = ai (ca 1) 320 (z 0) := by rw [ef_1, va_up_ne _ _ (by decide)]; exact c_319
  have c_320 : f_1 320 = ai (ca 1) 36 (z 1) := by rw [ef_1, va_up_ne _ _ (by decide)]; exact c_320
  have c_321 : f_1 321 = ai (ca 0) 64 (z 2) := by rw [ef_1, va_up_ne _ _ (by decide)]; exact c_321
  have c_322 : f_1 322 = ai (ca 0) 8 (z 3) := by rw [ef_1, va_up_ne _ _ (by decide)]; exact c_322
  have c_323 : f_1 323 = ai (ca 0) 8 (z 4) := by rw [ef_1, va_up_ne _ _ (by decide)]; exact c_323
  have c_324 : f_1 324 = ai (ca 0) 8 shR := by rw [ef_1, va_up_ne _ _ (by decide)]; exact c_324
  have c_325 : f_1 325 = ai (ca 0) 64 shK := by rw [ef_1, va_up_ne _ _ (by decide)]; exact c_325
  have qn_0 : (va_up n 7 0) 0 = n 0 := by rw [va_up_ne _ _ (by decide)]
  have qn_1 : (va_up n 7 0) 1 = n 1 := by rw [va_up_ne _ _ (by decide)]
  have qn_2 : (va_up n 7 0) 2 = n 2 := by rw [va_up_ne _ _ (by decide)]
  have qn_3 : (va_up n 7 0) 3 = n 3 := by rw [va_up_ne _ _ (by decide)]
  have qn_4 : (va_up n 7 0) 4 = n 4 := by rw [va_up_ne _ _ (by decide)]
  have qn_5 : (va_up n 7 0) 5 = n 5 := by rw [va_up_ne _ _ (by decide)]
  have qn_6 : (va_up n 7 0) 6 = n 6 := by rw [va_up_ne _ _ (by decide)]
  have qn_7 : (va_up n 7 0) 7 = 0 := by rw [va_up_self]
  have hRk : RepM ca ad (va_up n 7 0) g z zn tb f_1 := ⟨(by rw [qn_7, qn_0, qn_1, qn_2, qn_3, qn_4, qn_5]; exact c_302),
        c_303,
        c_304,
        c_305,
        c_306,
        c_307,
        c_308,
        c_309,
        c_310,
        c_311,
        c_312,
        c_313,
        c_314,
        c_315,
        c_316,
        c_317,
        c_318,
        c_319,
        c_320,
        c_321,
        c_322,
        c_323,
        c_324,
        c_325, hzn⟩
  have hfr : ∀ y, (y < 302 ∨ 326 ≤ y) → f_1 y = f y := (fun y hy => by rw [ef_1, va_up_ne _ _ (by omega)])
  refine x_Vi (q := 302) (As := [.int (nI i)]) (rest := []) ⟨hx, hb, hml, hown, hts⟩ (k_X6_isFile_yes l D ca N ad B tR tK f_1 dd hN (va_up n 7 0) g z zn tb hRk i (by omega) (by omega)) (cwV 1 hts gX6_read_X6_isFile rfl rfl rfl (by decide +kernel) ⟨Nat.le_of_ble_eq_true rfl, Nat.le_of_ble_eq_true rfl⟩) hK hE hB hw (by omega) c_302 rfl rfl rfl rfl hl.1 (Nat.le_of_ble_eq_true rfl) ⟨Nat.zero_le _, Nat.zero_le _⟩ dX6_read_7 (fun r_3 f_2 H locs hp hw => ?_)
  obtain ⟨er, hp⟩ := hp
  rw [← er]
  rw [← hp] at hw
  refine lv_if_ne (tgt := 15) hx hb dX6_read_10 (by decide) (fun _ => ?_) (fun h => absurd h (by decide))
  refine lv_iload_n hx hb dX6_read_15 rfl (lv_at hl 2 rfl) ?_
  refine x_Si (As := [.int y]) (rest := []) ⟨hx, hb, hml, hown, hts⟩ (k_X6_isDay_no l D ca N ad B tR tK f_1 dd y   ho) (va_cwS 1 hts gX6_read_X6_isDay rfl rfl rfl (by decide +kernel) ⟨Nat.le_of_ble_eq_true rfl, Nat.le_of_ble_eq_true rfl⟩) hK hE hB hw rfl rfl hl.1 (Nat.le_of_ble_eq_true rfl) ⟨Nat.zero_le _, Nat.zero_le _⟩ dX6_read_16 (fun r_5 f_4 H locs hp hw => ?_)
  obtain ⟨er, eu⟩ := hp
  rw [← er]
  rw [← eu] at hw
  refine lv_if_ne (tgt := 25) hx hb dX6_read_19 (by decide) (fun h => False.elim (h (by decide))) (fun _ => ?_)
  refine lv_bipush (v := (-2)) hx hb dX6_read_22 (by decide) ?_
  have qn_0 : (va_up n 7 0) 0 = n 0 := by rw [va_up_ne _ _ (by decide)]
  have qn_1 : (va_up n 7 0) 1 = n 1 := by rw [va_up_ne _ _ (by decide)]
  have qn_2 : (va_up n 7 0) 2 = n 2 := by rw [va_up_ne _ _ (by decide)]
  have qn_3 : (va_up n 7 0) 3 = n 3 := by rw [va_up_ne _ _ (by decide)]
  have qn_4 : (va_up n 7 0) 4 = n 4 := by rw [va_up_ne _ _ (by decide)]
  have qn_5 : (va_up n 7 0) 5 = n 5 := by rw [va_up_ne _ _ (by decide)]
  have qn_6 : (va_up n 7 0) 6 = n 6 := by rw [va_up_ne _ _ (by decide)]
  have qn_7 : (va_up n 7 0) 7 = 0 := by rw [va_up_self]
  have hRz : RepM ca ad (va_up n 7 0) g z zn tb f_1 := ⟨(by rw [qn_7, qn_0, qn_1, qn_2, qn_3, qn_4, qn_5]; exact c_302),
        c_303,
        c_304,
        c_305,
        c_306,
        c_307,
        c_308,
        c_309,
        c_310,
        c_311,
        c_312,
        c_313,
        c_314,
        c_315,
        c_316,
        c_317,
        c_318,
        c_319,
        c_320,
        c_321,
        c_322,
        c_323,
        c_324,
        c_325, hzn⟩
  exact x_iret hx hb hr hlocks hw ⟨rfl, z, zn, hRz, (fun y hy => by rw [ef_1, va_up_ne _ _ (by omega)])⟩ dX6_read_24

set_option maxHeartbeats 4000000 in
set_option maxRecDepth 100000 in
theorem k_X6_read_fit (l : Launch) (D : va_G) (ca : Nat → ClassId) (N : Nat) (ad : Nat → Nat) (B tR tK : Nat) (f : Nat → va_E) (dd : xD N ad B) (hN : 326 ≤ N) (n : Nat → Nat) (g : Nat → Nat → Int32) (z : Nat → Nat → Int32) (zn : Nat) (tb : Nat → Int32) (hR : RepM ca ad n g z zn tb f) (i : Nat) (j : Nat) (zz : Nat) (h2 : n 2 ≤ 20) (hi : i < n 2) (hj : j ≤ 1000000) (hz : g 2 i = nI zz) (hz2 : zz ≤ 200) (hr9 : n 4 < 200) (hf : mFit g i i zz) : xMi l yX6_read wsX6_read rmX6_read [.ref (ad 302), .int (nI i), .int (nI j)] D ca N ad B tR tK f (fun r u => nI 1 = r ∧ ∃ (z1 : Nat → Nat → Int32) (zn1 : Nat), RepM ca ad ((va_up (va_up n 7 0) 4 (((va_up n 7 0) 4) + 1))) ((va_up (va_up (va_up (va_up (va_up g 5 (upd (g 5) i (nI j))) 11 (upd (g 11) ((va_up n 7 0) 4) (nI 1))) 12 (upd (g 12) ((va_up n 7 0) 4) (nI i))) 14 (upd (g 14) ((va_up n 7 0) 4) (nI j))) 15 (rowB (g 15) (rowS (g 15) ((va_up n 7 0) 4) (nI 1) (nI i) (nI j)) ((va_up n 7 0) 4)))) z1 zn1 tb u ∧ ∀ y, (y < 302 ∨ 326 ≤ y) → u y = f y) := by
  refine x_open (cc := cX6_read) (maxL := 3) (ret := (some .int)) (by decide) rfl (Nat.le_of_ble_eq_true rfl) ?_
  intro p e s m below meth c ls hx hb hml hown hts hr hlocks hnm hB hK hE hw hl
  have hown : s.vm.findClass RX6 = some m.cls := hown
  have hl : lv_has ls 3 [(0, .ref (ad 302)), (1, .int (nI i)), (2, .int (nI j))] := hl
  obtain ⟨c_302, c_303, c_304, c_305, c_306, c_307, c_308, c_309, c_310, c_311, c_312, c_313, c_314, c_315, c_316, c_317, c_318, c_319, c_320, c_321, c_322, c_323, c_324, c_325, hzn⟩ := hR
  have hin_7 : ∀ w ∈ u_ws RX6 TX6 32, w ∈ wsX6_read := by decide +kernel
  have hf_160 := hts (.fieldLink RX6 160 "FixityRowsModel" "thrown" "I") (by decide +kernel)
  have b_302 := c_302
  have b_303 := c_303
  have b_304 := c_304
  have b_305 := c_305
  have b_306 := c_306
  have b_307 := c_307
  have b_308 := c_308
  have b_309 := c_309
  have b_310 := c_310
  have b_311 := c_311
  have b_312 := c_312
  have b_313 := c_313
  have b_314 := c_314
  have b_315 := c_315
  have b_316 := c_316
  have b_317 := c_317
  have b_318 := c_318
  have b_319 := c_319
  have b_320 := c_320
  have b_321 := c_321
  have b_322 := c_322
  have b_323 := c_323
  have b_324 := c_324
  have b_325 := c_325
  refine lv_aload_n hx hb dX6_read_0 rfl (lv_at hl 0 rfl) ?_
  refine lv_iconst (v := nI 0) hx hb dX6_read_1 (by decide) ?_
  refine x_put (ci := 7) (C := RX6) (T := TX6) (n := 32) (ref := RX6) (fs' := mO ad 0 (n 0) (n 1) (n 2) (g 13 0) (n 3) (n 4) (n 5) zn) hx hb hts hin_7 tyX6 tyX6_ok nmX6 hown hK dd hw 302 (by omega) c_302 rfl 0 (by decide) hf_160 (fun _ h => h) rfl rfl rfl (Nat.le_of_ble_eq_true rfl) rfl dX6_read_2 (fun H locs hw => ?_)
  obtain ⟨f_1, ef_1⟩ : ∃ z, z = va_up f 302 (.inr (7, mO ad 0 (n 0) (n 1) (n 2) (g 13 0) (n 3) (n 4) (n 5) zn)) := ⟨_, rfl⟩
  have hw : xw D vwCl N ad B s.heap f_1 H locs := by rw [ef_1]; exact hw
  have c_302 : f_1 302 = .inr (7, mO ad 0 (n 0) (n 1) (n 2) (g 13 0) (n 3) (n 4) (n 5) zn) := va_up_of ef_1
  refine lv_aload_n hx hb dX6_read_5 rfl (lv_at hl 0 rfl) ?_
  refine lv_iload_n hx hb dX6_read_6 rfl (lv_at hl 1 rfl) ?_
  have c_303 : f_1 303 = ai (ca 1) 200 (g 0) := by rw [ef_1, va_up_ne _ _ (by decide)]; exact c_303
  have c_304 : f_1 304 = ai (ca 1) 4000 (g 1) := by rw [ef_1, va_up_ne _ _ (by decide)]; exact c_304
  have c_305 : f_1 305 = ai (ca 0) 20 (g 2) := by rw [ef_1, va_up_ne _ _ (by decide)]; exact c_305
  have c_306 : f_1 306 = ai (ca 0) 20 (g 3) := by rw [ef_1, va_up_ne _ _ (by decide)]; exact c_306
  have c_307 : f_1 307 = ai (ca 1) 720 (g 4) := by rw [ef_1, va_up_ne _ _ (by decide)]; exact c_307
  have c_308 : f_1 308 = ai (ca 0) 20 (g 5) := by rw [ef_1, va_up_ne _ _ (by decide)]; exact c_308
  have c_309 : f_1 309 = ai (ca 0) 20 (g 6) := by rw [ef_1, va_up_ne _ _ (by decide)]; exact c_309
  have c_310 : f_1 310 = ai (ca 0) 20 (g 7) := by rw [ef_1, va_up_ne _ _ (by decide)]; exact c_310
  have c_311 : f_1 311 = ai (ca 0) 20 (g 8) := by rw [ef_1, va_up_ne _ _ (by decide)]; exact c_311
  have c_312 : f_1 312 = ai (ca 0) 20 (g 9) := by rw [ef_1, va_up_ne _ _ (by decide)]; exact c_312
  have c_313 : f_1 313 = ai (ca 2) 20 (g 10) := by rw [ef_1, va_up_ne _ _ (by decide)]; exact c_313
  have c_314 : f_1 314 = ai (ca 0) 200 (g 11) := by rw [ef_1, va_up_ne _ _ (by decide)]; exact c_314
  have c_315 : f_1 315 = ai (ca 0) 200 (g 12) := by rw [ef_1, va_up_ne _ _ (by decide)]; exact c_315
  have c_316 : f_1 316 = ai (ca 0) 200 (g 14) := by rw [ef_1, va_up_ne _ _ (by decide)]; exact c_316
  have c_317 : f_1 317 = ai (ca 1) 6400 (g 15) := by rw [ef_1, va_up_ne _ _ (by decide)]; exact c_317
  have c_318 : f_1 318 = ai (ca 1) 32 (g 16) := by rw [ef_1, va_up_ne _ _ (by decide)]; exact c_318
  have c_319 : f_1 319 = ai (ca 1) 320 (z 0) := by rw [ef_1, va_up_ne _ _ (by decide)]; exact c_319
  have c_320 : f_1 320 = ai (ca 1) 36 (z 1) := by rw [ef_1, va_up_ne _ _ (by decide)]; exact c_320
  have c_321 : f_1 321 = ai (ca 0) 64 (z 2) := by rw [ef_1, va_up_ne _ _ (by decide)]; exact c_321
  have c_322 : f_1 322 = ai (ca 0) 8 (z 3) := by rw [ef_1, va_up_ne _ _ (by decide)]; exact c_322
  have c_323 : f_1 323 = ai (ca 0) 8 (z 4) := by rw [ef_1, va_up_ne _ _ (by decide)]; exact c_323
  have c_324 : f_1 324 = ai (ca 0) 8 shR := by rw [ef_1, va_up_ne _ _ (by decide)]; exact c_324
  have c_325 : f_1 325 = ai (ca 0) 64 shK := by rw [ef_1, va_up_ne _ _ (by decide)]; exact c_325
  have qn_0 : (va_up n 7 0) 0 = n 0 := by rw [va_up_ne _ _ (by decide)]
  have qn_1 : (va_up n 7 0) 1 = n 1 := by rw [va_up_ne _ _ (by decide)]
  have qn_2 : (va_up n 7 0) 2 = n 2 := by rw [va_up_ne _ _ (by decide)]
  have qn_3 : (va_up n 7 0) 3 = n 3 := by rw [va_up_ne _ _ (by decide)]
  have qn_4 : (va_up n 7 0) 4 = n 4 := by rw [va_up_ne _ _ (by decide)]
  have qn_5 : (va_up n 7 0) 5 = n 5 := by rw [va_up_ne _ _ (by decide)]
  have qn_6 : (va_up n 7 0) 6 = n 6 := by rw [va_up_ne _ _ (by decide)]
  have qn_7 : (va_up n 7 0) 7 = 0 := by rw [va_up_self]
  have hRk : RepM ca ad (va_up n 7 0) g z zn tb f_1 := ⟨(by rw [qn_7, qn_0, qn_1, qn_2, qn_3, qn_4, qn_5]; exact c_302),
        c_303,
        c_304,
        c_305,
        c_306,
        c_307,
        c_308,
        c_309,
        c_310,
        c_311,
        c_312,
        c_313,
        c_314,
        c_315,
        c_316,
        c_317,
        c_318,
        c_319,
        c_320,
        c_321,
        c_322,
        c_323,
        c_324,
        c_325, hzn⟩
  have hfr : ∀ y, (y < 302 ∨ 326 ≤ y) → f_1 y = f y := (fun y hy => by rw [ef_1, va_up_ne _ _ (by omega)])
  refine x_Vi (q := 302) (As := [.int (nI i)]) (rest := []) ⟨hx, hb, hml, hown, hts⟩ (k_X6_isFile_yes l D ca N ad B tR tK f_1 dd hN (va_up n 7 0) g z zn tb hRk i (by omega) (by omega)) (cwV 1 hts gX6_read_X6_isFile rfl rfl rfl (by decide +kernel) ⟨Nat.le_of_ble_eq_true rfl, Nat.le_of_ble_eq_true rfl⟩) hK hE hB hw (by omega) c_302 rfl rfl rfl rfl hl.1 (Nat.le_of_ble_eq_true rfl) ⟨Nat.zero_le _, Nat.zero_le _⟩ dX6_read_7 (fun r_3 f_2 H locs hp hw => ?_)
  obtain ⟨er, hp⟩ := hp
  rw [← er]
  rw [← hp] at hw
  refine lv_if_ne (tgt := 15) hx hb dX6_read_10 (by decide) (fun _ => ?_) (fun h => absurd h (by decide))
  refine lv_iload_n hx hb dX6_read_15 rfl (lv_at hl 2 rfl) ?_
  refine x_Si (As := [.int (nI j)]) (rest := []) ⟨hx, hb, hml, hown, hts⟩ (k_X6_isDay_yes l D ca N ad B tR tK f_1 dd j   (by omega)) (va_cwS 1 hts gX6_read_X6_isDay rfl rfl rfl (by decide +kernel) ⟨Nat.le_of_ble_eq_true rfl, Nat.le_of_ble_eq_true rfl⟩) hK hE hB hw rfl rfl hl.1 (Nat.le_of_ble_eq_true rfl) ⟨Nat.zero_le _, Nat.zero_le _⟩ dX6_read_16 (fun r_5 f_4 H locs hp hw => ?_)
  obtain ⟨er, eu⟩ := hp
  rw [← er]
  rw [← eu] at hw
  refine lv_if_ne (tgt := 25) hx hb dX6_read_19 (by decide) (fun _ => ?_) (fun h => absurd h (by decide))
  refine lv_aload_n hx hb dX6_read_25 rfl (lv_at hl 0 rfl) ?_
  refine lv_iload_n hx hb dX6_read_26 rfl (lv_at hl 1 rfl) ?_
  refine lv_iload_n hx hb dX6_read_27 rfl (lv_at hl 2 rfl) ?_
  have qn_0 : (va_up n 7 0) 0 = n 0 := by rw [va_up_ne _ _ (by decide)]
  have qn_1 : (va_up n 7 0) 1 = n 1 := by rw [va_up_ne _ _ (by decide)]
  have qn_2 : (va_up n 7 0) 2 = n 2 := by rw [va_up_ne _ _ (by decide)]
  have qn_3 : (va_up n 7 0) 3 = n 3 := by rw [va_up_ne _ _ (by decide)]
  have qn_4 : (va_up n 7 0) 4 = n 4 := by rw [va_up_ne _ _ (by decide)]
  have qn_5 : (va_up n 7 0) 5 = n 5 := by rw [va_up_ne _ _ (by decide)]
  have qn_6 : (va_up n 7 0) 6 = n 6 := by rw [va_up_ne _ _ (by decide)]
  have qn_7 : (va_up n 7 0) 7 = 0 := by rw [va_up_self]
  have hRk : RepM ca ad (va_up n 7 0) g z zn tb f_1 := ⟨(by rw [qn_7, qn_0, qn_1, qn_2, qn_3, qn_4, qn_5]; exact c_302),
        c_303,
        c_304,
        c_305,
        c_306,
        c_307,
        c_308,
        c_309,
        c_310,
        c_311,
        c_312,
        c_313,
        c_314,
        c_315,
        c_316,
        c_317,
        c_318,
        c_319,
        c_320,
        c_321,
        c_322,
        c_323,
        c_324,
        c_325, hzn⟩
  have hfr : ∀ y, (y < 302 ∨ 326 ≤ y) → f_1 y = f y := (fun y hy => by rw [ef_1, va_up_ne _ _ (by omega)])
  refine x_Vi (q := 302) (As := [.int (nI i), .int (nI j)]) (rest := []) ⟨hx, hb, hml, hown, hts⟩ (k_X6_check_fit l D ca N ad B tR tK f_1 dd hN (va_up n 7 0) g z zn tb hRk i (nI j) zz (by omega) hz (by omega) (by omega) hf) (cwV 2 hts gX6_read_X6_check rfl rfl rfl (by decide +kernel) ⟨Nat.le_of_ble_eq_true rfl, Nat.le_of_ble_eq_true rfl⟩) hK hE hB hw (by omega) c_302 rfl rfl rfl rfl hl.1 (Nat.le_of_ble_eq_true rfl) ⟨Nat.zero_le _, Nat.zero_le _⟩ dX6_read_28 (fun r_7 f_6 H locs hp hw => ?_)
  obtain ⟨er, hp⟩ := hp
  rw [← er]
  obtain ⟨z_8, zn_9, hR2, hfr2⟩ := hp
  obtain ⟨n_10, en_10⟩ : ∃ x, x = va_up (va_up n 7 0) 4 (((va_up n 7 0) 4) + 1) := ⟨_, rfl⟩
  obtain ⟨g_11, eg_11⟩ : ∃ x, x = va_up (va_up (va_up (va_up (va_up g 5 (upd (g 5) i (nI j))) 11 (upd (g 11) ((va_up n 7 0) 4) (nI 1))) 12 (upd (g 12) ((va_up n 7 0) 4) (nI i))) 14 (upd (g 14) ((va_up n 7 0) 4) (nI j))) 15 (rowB (g 15) (rowS (g 15) ((va_up n 7 0) 4) (nI 1) (nI i) (nI j)) ((va_up n 7 0) 4)) := ⟨_, rfl⟩
  rw [← en_10, ← eg_11] at hR2
  have hfr : ∀ y, (y < 302 ∨ 326 ≤ y) → f_6 y = f y := fun y hy => (hfr2 y hy).trans (hfr y hy)
  obtain ⟨c_302, c_303, c_304, c_305, c_306, c_307, c_308, c_309, c_310, c_311, c_312, c_313, c_314, c_315, c_316, c_317, c_318, c_319, c_320, c_321, c_322, c_323, c_324, c_325, hzn⟩ := hR2
  refine lv_if_eq (tgt := 38) hx hb dX6_read_31 (by decide) (fun h => absurd h (by decide)) (fun _ => ?_)
  refine lv_iconst (v := nI 1) hx hb dX6_read_34 (by decide) ?_
  refine lv_goto (tgt := 39) hx hb dX6_read_35 (by decide) ?_
  have hRz : RepM ca ad n_10 g_11 z_8 zn_9 tb f_6 := ⟨c_302,
        c_303,
        c_304,
        c_305,
        c_306,
        c_307,
        c_308,
        c_309,
        c_310,
        c_311,
        c_312,
        c_313,
        c_314,
        c_315,
        c_316,
        c_317,
        c_318,
        c_319,
        c_320,
        c_321,
        c_322,
        c_323,
        c_324,
        c_325, hzn⟩
  exact x_iret hx hb hr hlocks hw ⟨rfl, z_8, zn_9, (by rw [eg_11, en_10] at hRz; exact hRz), (fun y hy => hfr y hy)⟩ dX6_read_39

set_option maxHeartbeats 4000000 in
set_option maxRecDepth 100000 in
theorem k_X6_read_fitF (l : Launch) (D : va_G) (ca : Nat → ClassId) (N : Nat) (ad : Nat → Nat) (B tR tK : Nat) (f : Nat → va_E) (dd : xD N ad B) (hN : 326 ≤ N) (n : Nat → Nat) (g : Nat → Nat → Int32) (z : Nat → Nat → Int32) (zn : Nat) (tb : Nat → Int32) (hR : RepM ca ad n g z zn tb f) (i : Nat) (j : Nat) (zz : Nat) (h2 : n 2 ≤ 20) (hi : i < n 2) (hj : j ≤ 1000000) (hz : g 2 i = nI zz) (hz2 : zz ≤ 200) (hr9 : n 4 = 200) (hf : mFit g i i zz) : xMi l yX6_read wsX6_read rmX6_read [.ref (ad 302), .int (nI i), .int (nI j)] D ca N ad B tR tK f (fun r u => nI 1 = r ∧ ∃ (z1 : Nat → Nat → Int32) (zn1 : Nat), RepM ca ad (((va_up n 7 0))) ((va_up g 5 (upd (g 5) i (nI j)))) z1 zn1 tb u ∧ ∀ y, (y < 302 ∨ 326 ≤ y) → u y = f y) := by
  refine x_open (cc := cX6_read) (maxL := 3) (ret := (some .int)) (by decide) rfl (Nat.le_of_ble_eq_true rfl) ?_
  intro p e s m below meth c ls hx hb hml hown hts hr hlocks hnm hB hK hE hw hl
  have hown : s.vm.findClass RX6 = some m.cls := hown
  have hl : lv_has ls 3 [(0, .ref (ad 302)), (1, .int (nI i)), (2, .int (nI j))] := hl
  obtain ⟨c_302, c_303, c_304, c_305, c_306, c_307, c_308, c_309, c_310, c_311, c_312, c_313, c_314, c_315, c_316, c_317, c_318, c_319, c_320, c_321, c_322, c_323, c_324, c_325, hzn⟩ := hR
  have hin_7 : ∀ w ∈ u_ws RX6 TX6 32, w ∈ wsX6_read := by decide +kernel
  have hf_160 := hts (.fieldLink RX6 160 "FixityRowsModel" "thrown" "I") (by decide +kernel)
  have b_302 := c_302
  have b_303 := c_303
  have b_304 := c_304
  have b_305 := c_305
  have b_306 := c_306
  have b_307 := c_307
  have b_308 := c_308
  have b_309 := c_309
  have b_310 := c_310
  have b_311 := c_311
  have b_312 := c_312
  have b_313 := c_313
  have b_314 := c_314
  have b_315 := c_315
  have b_316 := c_316
  have b_317 := c_317
  have b_318 := c_318
  have b_319 := c_319
  have b_320 := c_320
  have b_321 := c_321
  have b_322 := c_322
  have b_323 := c_323
  have b_324 := c_324
  have b_325 := c_325
  refine lv_aload_n hx hb dX6_read_0 rfl (lv_at hl 0 rfl) ?_
  refine lv_iconst (v := nI 0) hx hb dX6_read_1 (by decide) ?_
  refine x_put (ci := 7) (C := RX6) (T := TX6) (n := 32) (ref := RX6) (fs' := mO ad 0 (n 0) (n 1) (n 2) (g 13 0) (n 3) (n 4) (n 5) zn) hx hb hts hin_7 tyX6 tyX6_ok nmX6 hown hK dd hw 302 (by omega) c_302 rfl 0 (by decide) hf_160 (fun _ h => h) rfl rfl rfl (Nat.le_of_ble_eq_true rfl) rfl dX6_read_2 (fun H locs hw => ?_)
  obtain ⟨f_1, ef_1⟩ : ∃ z, z = va_up f 302 (.inr (7, mO ad 0 (n 0) (n 1) (n 2) (g 13 0) (n 3) (n 4) (n 5) zn)) := ⟨_, rfl⟩
  have hw : xw D vwCl N ad B s.heap f_1 H locs := by rw [ef_1]; exact hw
  have c_302 : f_1 302 = .inr (7, mO ad 0 (n 0) (n 1) (n 2) (g 13 0) (n 3) (n 4) (n 5) zn) := va_up_of ef_1
  refine lv_aload_n hx hb dX6_read_5 rfl (lv_at hl 0 rfl) ?_
  refine lv_iload_n hx hb dX6_read_6 rfl (lv_at hl 1 rfl) ?_
  have c_303 : f_1 303 = ai (ca 1) 200 (g 0) := by rw [ef_1, va_up_ne _ _ (by decide)]; exact c_303
  have c_304 : f_1 304 = ai (ca 1) 4000 (g 1) := by rw [ef_1, va_up_ne _ _ (by decide)]; exact c_304
  have c_305 : f_1 305 = ai (ca 0) 20 (g 2) := by rw [ef_1, va_up_ne _ _ (by decide)]; exact c_305
  have c_306 : f_1 306 = ai (ca 0) 20 (g 3) := by rw [ef_1, va_up_ne _ _ (by decide)]; exact c_306
  have c_307 : f_1 307 = ai (ca 1) 720 (g 4) := by rw [ef_1, va_up_ne _ _ (by decide)]; exact c_307
  have c_308 : f_1 308 = ai (ca 0) 20 (g 5) := by rw [ef_1, va_up_ne _ _ (by decide)]; exact c_308
  have c_309 : f_1 309 = ai (ca 0) 20 (g 6) := by rw [ef_1, va_up_ne _ _ (by decide)]; exact c_309
  have c_310 : f_1 310 = ai (ca 0) 20 (g 7) := by rw [ef_1, va_up_ne _ _ (by decide)]; exact c_310
  have c_311 : f_1 311 = ai (ca 0) 20 (g 8) := by rw [ef_1, va_up_ne _ _ (by decide)]; exact c_311
  have c_312 : f_1 312 = ai (ca 0) 20 (g 9) := by rw [ef_1, va_up_ne _ _ (by decide)]; exact c_312
  have c_313 : f_1 313 = ai (ca 2) 20 (g 10) := by rw [ef_1, va_up_ne _ _ (by decide)]; exact c_313
  have c_314 : f_1 314 = ai (ca 0) 200 (g 11) := by rw [ef_1, va_up_ne _ _ (by decide)]; exact c_314
  have c_315 : f_1 315 = ai (ca 0) 200 (g 12) := by rw [ef_1, va_up_ne _ _ (by decide)]; exact c_315
  have c_316 : f_1 316 = ai (ca 0) 200 (g 14) := by rw [ef_1, va_up_ne _ _ (by decide)]; exact c_316
  have c_317 : f_1 317 = ai (ca 1) 6400 (g 15) := by rw [ef_1, va_up_ne _ _ (by decide)]; exact c_317
  have c_318 : f_1 318 = ai (ca 1) 32 (g 16) := by rw [ef_1, va_up_ne _ _ (by decide)]; exact c_318
  have c_319 : f_1 319 = ai (ca 1) 320 (z 0) := by rw [ef_1, va_up_ne _ _ (by decide)]; exact c_319
  have c_320 : f_1 320 = ai (ca 1) 36 (z 1) := by rw [ef_1, va_up_ne _ _ (by decide)]; exact c_320
  have c_321 : f_1 321 = ai (ca 0) 64 (z 2) := by rw [ef_1, va_up_ne _ _ (by decide)]; exact c_321
  have c_322 : f_1 322 = ai (ca 0) 8 (z 3) := by rw [ef_1, va_up_ne _ _ (by decide)]; exact c_322
  have c_323 : f_1 323 = ai (ca 0) 8 (z 4) := by rw [ef_1, va_up_ne _ _ (by decide)]; exact c_323
  have c_324 : f_1 324 = ai (ca 0) 8 shR := by rw [ef_1, va_up_ne _ _ (by decide)]; exact c_324
  have c_325 : f_1 325 = ai (ca 0) 64 shK := by rw [ef_1, va_up_ne _ _ (by decide)]; exact c_325
  have qn_0 : (va_up n 7 0) 0 = n 0 := by rw [va_up_ne _ _ (by decide)]
  have qn_1 : (va_up n 7 0) 1 = n 1 := by rw [va_up_ne _ _ (by decide)]
  have qn_2 : (va_up n 7 0) 2 = n 2 := by rw [va_up_ne _ _ (by decide)]
  have qn_3 : (va_up n 7 0) 3 = n 3 := by rw [va_up_ne _ _ (by decide)]
  have qn_4 : (va_up n 7 0) 4 = n 4 := by rw [va_up_ne _ _ (by decide)]
  have qn_5 : (va_up n 7 0) 5 = n 5 := by rw [va_up_ne _ _ (by decide)]
  have qn_6 : (va_up n 7 0) 6 = n 6 := by rw [va_up_ne _ _ (by decide)]
  have qn_7 : (va_up n 7 0) 7 = 0 := by rw [va_up_self]
  have hRk : RepM ca ad (va_up n 7 0) g z zn tb f_1 := ⟨(by rw [qn_7, qn_0, qn_1, qn_2, qn_3, qn_4, qn_5]; exact c_302),
        c_303,
        c_304,
        c_305,
        c_306,
        c_307,
        c_308,
        c_309,
        c_310,
        c_311,
        c_312,
        c_313,
        c_314,
        c_315,
        c_316,
        c_317,
        c_318,
        c_319,
        c_320,
        c_321,
        c_322,
        c_323,
        c_324,
        c_325, hzn⟩
  have hfr : ∀ y, (y < 302 ∨ 326 ≤ y) → f_1 y = f y := (fun y hy => by rw [ef_1, va_up_ne _ _ (by omega)])
  refine x_Vi (q := 302) (As := [.int (nI i)]) (rest := []) ⟨hx, hb, hml, hown, hts⟩ (k_X6_isFile_yes l D ca N ad B tR tK f_1 dd hN (va_up n 7 0) g z zn tb hRk i (by omega) (by omega)) (cwV 1 hts gX6_read_X6_isFile rfl rfl rfl (by decide +kernel) ⟨Nat.le_of_ble_eq_true rfl, Nat.le_of_ble_eq_true rfl⟩) hK hE hB hw (by omega) c_302 rfl rfl rfl rfl hl.1 (Nat.le_of_ble_eq_true rfl) ⟨Nat.zero_le _, Nat.zero_le _⟩ dX6_read_7 (fun r_3 f_2 H locs hp hw => ?_)
  obtain ⟨er, hp⟩ := hp
  rw [← er]
  rw [← hp] at hw
  refine lv_if_ne (tgt := 15) hx hb dX6_read_10 (by decide) (fun _ => ?_) (fun h => absurd h (by decide))
  refine lv_iload_n hx hb dX6_read_15 rfl (lv_at hl 2 rfl) ?_
  refine x_Si (As := [.int (nI j)]) (rest := []) ⟨hx, hb, hml, hown, hts⟩ (k_X6_isDay_yes l D ca N ad B tR tK f_1 dd j   (by omega)) (va_cwS 1 hts gX6_read_X6_isDay rfl rfl rfl (by decide +kernel) ⟨Nat.le_of_ble_eq_true rfl, Nat.le_of_ble_eq_true rfl⟩) hK hE hB hw rfl rfl hl.1 (Nat.le_of_ble_eq_true rfl) ⟨Nat.zero_le _, Nat.zero_le _⟩ dX6_read_16 (fun r_5 f_4 H locs hp hw => ?_)
  obtain ⟨er, eu⟩ := hp
  rw [← er]
  rw [← eu] at hw
  refine lv_if_ne (tgt := 25) hx hb dX6_read_19 (by decide) (fun _ => ?_) (fun h => absurd h (by decide))
  refine lv_aload_n hx hb dX6_read_25 rfl (lv_at hl 0 rfl) ?_
  refine lv_iload_n hx hb dX6_read_26 rfl (lv_at hl 1 rfl) ?_
  refine lv_iload_n hx hb dX6_read_27 rfl (lv_at hl 2 rfl) ?_
  have qn_0 : (va_up n 7 0) 0 = n 0 := by rw [va_up_ne _ _ (by decide)]
  have qn_1 : (va_up n 7 0) 1 = n 1 := by rw [va_up_ne _ _ (by decide)]
  have qn_2 : (va_up n 7 0) 2 = n 2 := by rw [va_up_ne _ _ (by decide)]
  have qn_3 : (va_up n 7 0) 3 = n 3 := by rw [va_up_ne _ _ (by decide)]
  have qn_4 : (va_up n 7 0) 4 = n 4 := by rw [va_up_ne _ _ (by decide)]
  have qn_5 : (va_up n 7 0) 5 = n 5 := by rw [va_up_ne _ _ (by decide)]
  have qn_6 : (va_up n 7 0) 6 = n 6 := by rw [va_up_ne _ _ (by decide)]
  have qn_7 : (va_up n 7 0) 7 = 0 := by rw [va_up_self]
  have hRk : RepM ca ad (va_up n 7 0) g z zn tb f_1 := ⟨(by rw [qn_7, qn_0, qn_1, qn_2, qn_3, qn_4, qn_5]; exact c_302),
        c_303,
        c_304,
        c_305,
        c_306,
        c_307,
        c_308,
        c_309,
        c_310,
        c_311,
        c_312,
        c_313,
        c_314,
        c_315,
        c_316,
        c_317,
        c_318,
        c_319,
        c_320,
        c_321,
        c_322,
        c_323,
        c_324,
        c_325, hzn⟩
  have hfr : ∀ y, (y < 302 ∨ 326 ≤ y) → f_1 y = f y := (fun y hy => by rw [ef_1, va_up_ne _ _ (by omega)])
  refine x_Vi (q := 302) (As := [.int (nI i), .int (nI j)]) (rest := []) ⟨hx, hb, hml, hown, hts⟩ (k_X6_check_fitF l D ca N ad B tR tK f_1 dd hN (va_up n 7 0) g z zn tb hRk i (nI j) zz (by omega) hz (by omega) (by omega) hf) (cwV 2 hts gX6_read_X6_check rfl rfl rfl (by decide +kernel) ⟨Nat.le_of_ble_eq_true rfl, Nat.le_of_ble_eq_true rfl⟩) hK hE hB hw (by omega) c_302 rfl rfl rfl rfl hl.1 (Nat.le_of_ble_eq_true rfl) ⟨Nat.zero_le _, Nat.zero_le _⟩ dX6_read_28 (fun r_7 f_6 H locs hp hw => ?_)
  obtain ⟨er, hp⟩ := hp
  rw [← er]
  obtain ⟨z_8, zn_9, hR2, hfr2⟩ := hp
  obtain ⟨n_10, en_10⟩ : ∃ x, x = (va_up n 7 0) := ⟨_, rfl⟩
  obtain ⟨g_11, eg_11⟩ : ∃ x, x = va_up g 5 (upd (g 5) i (nI j)) := ⟨_, rfl⟩
  rw [← en_10, ← eg_11] at hR2
  have hfr : ∀ y, (y < 302 ∨ 326 ≤ y) → f_6 y = f y := fun y hy => (hfr2 y hy).trans (hfr y hy)
  obtain ⟨c_302, c_303, c_304, c_305, c_306, c_307, c_308, c_309, c_310, c_311, c_312, c_313, c_314, c_315, c_316, c_317, c_318, c_319, c_320, c_321, c_322, c_323, c_324, c_325, hzn⟩ := hR2
  refine lv_if_eq (tgt := 38) hx hb dX6_read_31 (by decide) (fun h => absurd h (by decide)) (fun _ => ?_)
  refine lv_iconst (v := nI 1) hx hb dX6_read_34 (by decide) ?_
  refine lv_goto (tgt := 39) hx hb dX6_read_35 (by decide) ?_
  have hRz : RepM ca ad n_10 g_11 z_8 zn_9 tb f_6 := ⟨c_302,
        c_303,
        c_304,
        c_305,
        c_306,
        c_307,
        c_308,
        c_309,
        c_310,
        c_311,
        c_312,
        c_313,
        c_314,
        c_315,
        c_316,
        c_317,
        c_318,
        c_319,
        c_320,
        c_321,
        c_322,
        c_323,
        c_324,
        c_325, hzn⟩
  exact x_iret hx hb hr hlocks hw ⟨rfl, z_8, zn_9, (by rw [eg_11, en_10] at hRz; exact hRz), (fun y hy => hfr y hy)⟩ dX6_read_39

set_option maxHeartbeats 4000000 in
set_option maxRecDepth 100000 in
theorem k_X6_read_no (l : Launch) (D : va_G) (ca : Nat → ClassId) (N : Nat) (ad : Nat → Nat) (B tR tK : Nat) (f : Nat → va_E) (dd : xD N ad B) (hN : 326 ≤ N) (n : Nat → Nat) (g : Nat → Nat → Int32) (z : Nat → Nat → Int32) (zn : Nat) (tb : Nat → Int32) (hR : RepM ca ad n g z zn tb f) (i : Nat) (j : Nat) (zz : Nat) (h2 : n 2 ≤ 20) (hi : i < n 2) (hj : j ≤ 1000000) (hz : g 2 i = nI zz) (hz2 : zz ≤ 200) (hr9 : n 4 < 200) (hf : ¬ mFit g i i zz) : xMi l yX6_read wsX6_read rmX6_read [.ref (ad 302), .int (nI i), .int (nI j)] D ca N ad B tR tK f (fun r u => nI 0 = r ∧ ∃ (z1 : Nat → Nat → Int32) (zn1 : Nat), RepM ca ad ((va_up (va_up n 7 0) 4 (((va_up n 7 0) 4) + 1))) ((va_up (va_up (va_up (va_up g 11 (upd (g 11) ((va_up n 7 0) 4) (nI 2))) 12 (upd (g 12) ((va_up n 7 0) 4) (nI i))) 14 (upd (g 14) ((va_up n 7 0) 4) (nI j))) 15 (rowB (g 15) (rowS (g 15) ((va_up n 7 0) 4) (nI 2) (nI i) (nI j)) ((va_up n 7 0) 4)))) z1 zn1 tb u ∧ ∀ y, (y < 302 ∨ 326 ≤ y) → u y = f y) := by
  refine x_open (cc := cX6_read) (maxL := 3) (ret := (some .int)) (by decide) rfl (Nat.le_of_ble_eq_true rfl) ?_
  intro p e s m below meth c ls hx hb hml hown hts hr hlocks hnm hB hK hE hw hl
  have hown : s.vm.findClass RX6 = some m.cls := hown
  have hl : lv_has ls 3 [(0, .ref (ad 302)), (1, .int (nI i)), (2, .int (nI j))] := hl
  obtain ⟨c_302, c_303, c_304, c_305, c_306, c_307, c_308, c_309, c_310, c_311, c_312, c_313, c_314, c_315, c_316, c_317, c_318, c_319, c_320, c_321, c_322, c_323, c_324, c_325, hzn⟩ := hR
  have hin_7 : ∀ w ∈ u_ws RX6 TX6 32, w ∈ wsX6_read := by decide +kernel
  have hf_160 := hts (.fieldLink RX6 160 "FixityRowsModel" "thrown" "I") (by decide +kernel)
  have b_302 := c_302
  have b_303 := c_303
  have b_304 := c_304
  have b_305 := c_305
  have b_306 := c_306
  have b_307 := c_307
  have b_308 := c_308
  have b_309 := c_309
  have b_310 := c_310
  have b_311 := c_311
  have b_312 := c_312
  have b_313 := c_313
  have b_314 := c_314
  have b_315 := c_315
  have b_316 := c_316
  have b_317 := c_317
  have b_318 := c_318
  have b_319 := c_319
  have b_320 := c_320
  have b_321 := c_321
  have b_322 := c_322
  have b_323 := c_323
  have b_324 := c_324
  have b_325 := c_325
  refine lv_aload_n hx hb dX6_read_0 rfl (lv_at hl 0 rfl) ?_
  refine lv_iconst (v := nI 0) hx hb dX6_read_1 (by decide) ?_
  refine x_put (ci := 7) (C := RX6) (T := TX6) (n := 32) (ref := RX6) (fs' := mO ad 0 (n 0) (n 1) (n 2) (g 13 0) (n 3) (n 4) (n 5) zn) hx hb hts hin_7 tyX6 tyX6_ok nmX6 hown hK dd hw 302 (by omega) c_302 rfl 0 (by decide) hf_160 (fun _ h => h) rfl rfl rfl (Nat.le_of_ble_eq_true rfl) rfl dX6_read_2 (fun H locs hw => ?_)
  obtain ⟨f_1, ef_1⟩ : ∃ z, z = va_up f 302 (.inr (7, mO ad 0 (n 0) (n 1) (n 2) (g 13 0) (n 3) (n 4) (n 5) zn)) := ⟨_, rfl⟩
  have hw : xw D vwCl N ad B s.heap f_1 H locs := by rw [ef_1]; exact hw
  have c_302 : f_1 302 = .inr (7, mO ad 0 (n 0) (n 1) (n 2) (g 13 0) (n 3) (n 4) (n 5) zn) := va_up_of ef_1
  refine lv_aload_n hx hb dX6_read_5 rfl (lv_at hl 0 rfl) ?_
  refine lv_iload_n hx hb dX6_read_6 rfl (lv_at hl 1 rfl) ?_
  have c_303 : f_1 303 = ai (ca 1) 200 (g 0) := by rw [ef_1, va_up_ne _ _ (by decide)]; exact c_303
  have c_304 : f_1 304 = ai (ca 1) 4000 (g 1) := by rw [ef_1, va_up_ne _ _ (by decide)]; exact c_304
  have c_305 : f_1 305 = ai (ca 0) 20 (g 2) := by rw [ef_1, va_up_ne _ _ (by decide)]; exact c_305
  have c_306 : f_1 306 = ai (ca 0) 20 (g 3) := by rw [ef_1, va_up_ne _ _ (by decide)]; exact c_306
  have c_307 : f_1 307 = ai (ca 1) 720 (g 4) := by rw [ef_1, va_up_ne _ _ (by decide)]; exact c_307
  have c_308 : f_1 308 = ai (ca 0) 20 (g 5) := by rw [ef_1, va_up_ne _ _ (by decide)]; exact c_308
  have c_309 : f_1 309 = ai (ca 0) 20 (g 6) := by rw [ef_1, va_up_ne _ _ (by decide)]; exact c_309
  have c_310 : f_1 310 = ai (ca 0) 20 (g 7) := by rw [ef_1, va_up_ne _ _ (by decide)]; exact c_310
  have c_311 : f_1 311 = ai (ca 0) 20 (g 8) := by rw [ef_1, va_up_ne _ _ (by decide)]; exact c_311
  have c_312 : f_1 312 = ai (ca 0) 20 (g 9) := by rw [ef_1, va_up_ne _ _ (by decide)]; exact c_312
  have c_313 : f_1 313 = ai (ca 2) 20 (g 10) := by rw [ef_1, va_up_ne _ _ (by decide)]; exact c_313
  have c_314 : f_1 314 = ai (ca 0) 200 (g 11) := by rw [ef_1, va_up_ne _ _ (by decide)]; exact c_314
  have c_315 : f_1 315 = ai (ca 0) 200 (g 12) := by rw [ef_1, va_up_ne _ _ (by decide)]; exact c_315
  have c_316 : f_1 316 = ai (ca 0) 200 (g 14) := by rw [ef_1, va_up_ne _ _ (by decide)]; exact c_316
  have c_317 : f_1 317 = ai (ca 1) 6400 (g 15) := by rw [ef_1, va_up_ne _ _ (by decide)]; exact c_317
  have c_318 : f_1 318 = ai (ca 1) 32 (g 16) := by rw [ef_1, va_up_ne _ _ (by decide)]; exact c_318
  have c_319 : f_1 319 = ai (ca 1) 320 (z 0) := by rw [ef_1, va_up_ne _ _ (by decide)]; exact c_319
  have c_320 : f_1 320 = ai (ca 1) 36 (z 1) := by rw [ef_1, va_up_ne _ _ (by decide)]; exact c_320
  have c_321 : f_1 321 = ai (ca 0) 64 (z 2) := by rw [ef_1, va_up_ne _ _ (by decide)]; exact c_321
  have c_322 : f_1 322 = ai (ca 0) 8 (z 3) := by rw [ef_1, va_up_ne _ _ (by decide)]; exact c_322
  have c_323 : f_1 323 = ai (ca 0) 8 (z 4) := by rw [ef_1, va_up_ne _ _ (by decide)]; exact c_323
  have c_324 : f_1 324 = ai (ca 0) 8 shR := by rw [ef_1, va_up_ne _ _ (by decide)]; exact c_324
  have c_325 : f_1 325 = ai (ca 0) 64 shK := by rw [ef_1, va_up_ne _ _ (by decide)]; exact c_325
  have qn_0 : (va_up n 7 0) 0 = n 0 := by rw [va_up_ne _ _ (by decide)]
  have qn_1 : (va_up n 7 0) 1 = n 1 := by rw [va_up_ne _ _ (by decide)]
  have qn_2 : (va_up n 7 0) 2 = n 2 := by rw [va_up_ne _ _ (by decide)]
  have qn_3 : (va_up n 7 0) 3 = n 3 := by rw [va_up_ne _ _ (by decide)]
  have qn_4 : (va_up n 7 0) 4 = n 4 := by rw [va_up_ne _ _ (by decide)]
  have qn_5 : (va_up n 7 0) 5 = n 5 := by rw [va_up_ne _ _ (by decide)]
  have qn_6 : (va_up n 7 0) 6 = n 6 := by rw [va_up_ne _ _ (by decide)]
  have qn_7 : (va_up n 7 0) 7 = 0 := by rw [va_up_self]
  have hRk : RepM ca ad (va_up n 7 0) g z zn tb f_1 := ⟨(by rw [qn_7, qn_0, qn_1, qn_2, qn_3, qn_4, qn_5]; exact c_302),
        c_303,
        c_304,
        c_305,
        c_306,
        c_307,
        c_308,
        c_309,
        c_310,
        c_311,
        c_312,
        c_313,
        c_314,
        c_315,
        c_316,
        c_317,
        c_318,
        c_319,
        c_320,
        c_321,
        c_322,
        c_323,
        c_324,
        c_325, hzn⟩
  have hfr : ∀ y, (y < 302 ∨ 326 ≤ y) → f_1 y = f y := (fun y hy => by rw [ef_1, va_up_ne _ _ (by omega)])
  refine x_Vi (q := 302) (As := [.int (nI i)]) (rest := []) ⟨hx, hb, hml, hown, hts⟩ (k_X6_isFile_yes l D ca N ad B tR tK f_1 dd hN (va_up n 7 0) g z zn tb hRk i (by omega) (by omega)) (cwV 1 hts gX6_read_X6_isFile rfl rfl rfl (by decide +kernel) ⟨Nat.le_of_ble_eq_true rfl, Nat.le_of_ble_eq_true rfl⟩) hK hE hB hw (by omega) c_302 rfl rfl rfl rfl hl.1 (Nat.le_of_ble_eq_true rfl) ⟨Nat.zero_le _, Nat.zero_le _⟩ dX6_read_7 (fun r_3 f_2 H locs hp hw => ?_)
  obtain ⟨er, hp⟩ := hp
  rw [← er]
  rw [← hp] at hw
  refine lv_if_ne (tgt := 15) hx hb dX6_read_10 (by decide) (fun _ => ?_) (fun h => absurd h (by decide))
  refine lv_iload_n hx hb dX6_read_15 rfl (lv_at hl 2 rfl) ?_
  refine x_Si (As := [.int (nI j)]) (rest := []) ⟨hx, hb, hml, hown, hts⟩ (k_X6_isDay_yes l D ca N ad B tR tK f_1 dd j   (by omega)) (va_cwS 1 hts gX6_read_X6_isDay rfl rfl rfl (by decide +kernel) ⟨Nat.le_of_ble_eq_true rfl, Nat.le_of_ble_eq_true rfl⟩) hK hE hB hw rfl rfl hl.1 (Nat.le_of_ble_eq_true rfl) ⟨Nat.zero_le _, Nat.zero_le _⟩ dX6_read_16 (fun r_5 f_4 H locs hp hw => ?_)
  obtain ⟨er, eu⟩ := hp
  rw [← er]
  rw [← eu] at hw
  refine lv_if_ne (tgt := 25) hx hb dX6_read_19 (by decide) (fun _ => ?_) (fun h => absurd h (by decide))
  refine lv_aload_n hx hb dX6_read_25 rfl (lv_at hl 0 rfl) ?_
  refine lv_iload_n hx hb dX6_read_26 rfl (lv_at hl 1 rfl) ?_
  refine lv_iload_n hx hb dX6_read_27 rfl (lv_at hl 2 rfl) ?_
  have qn_0 : (va_up n 7 0) 0 = n 0 := by rw [va_up_ne _ _ (by decide)]
  have qn_1 : (va_up n 7 0) 1 = n 1 := by rw [va_up_ne _ _ (by decide)]
  have qn_2 : (va_up n 7 0) 2 = n 2 := by rw [va_up_ne _ _ (by decide)]
  have qn_3 : (va_up n 7 0) 3 = n 3 := by rw [va_up_ne _ _ (by decide)]
  have qn_4 : (va_up n 7 0) 4 = n 4 := by rw [va_up_ne _ _ (by decide)]
  have qn_5 : (va_up n 7 0) 5 = n 5 := by rw [va_up_ne _ _ (by decide)]
  have qn_6 : (va_up n 7 0) 6 = n 6 := by rw [va_up_ne _ _ (by decide)]
  have qn_7 : (va_up n 7 0) 7 = 0 := by rw [va_up_self]
  have hRk : RepM ca ad (va_up n 7 0) g z zn tb f_1 := ⟨(by rw [qn_7, qn_0, qn_1, qn_2, qn_3, qn_4, qn_5]; exact c_302),
        c_303,
        c_304,
        c_305,
        c_306,
        c_307,
        c_308,
        c_309,
        c_310,
        c_311,
        c_312,
        c_313,
        c_314,
        c_315,
        c_316,
        c_317,
        c_318,
        c_319,
        c_320,
        c_321,
        c_322,
        c_323,
        c_324,
        c_325, hzn⟩
  have hfr : ∀ y, (y < 302 ∨ 326 ≤ y) → f_1 y = f y := (fun y hy => by rw [ef_1, va_up_ne _ _ (by omega)])
  refine x_Vi (q := 302) (As := [.int (nI i), .int (nI j)]) (rest := []) ⟨hx, hb, hml, hown, hts⟩ (k_X6_check_no l D ca N ad B tR tK f_1 dd hN (va_up n 7 0) g z zn tb hRk i (nI j) zz (by omega) hz (by omega) (by omega) hf) (cwV 2 hts gX6_read_X6_check rfl rfl rfl (by decide +kernel) ⟨Nat.le_of_ble_eq_true rfl, Nat.le_of_ble_eq_true rfl⟩) hK hE hB hw (by omega) c_302 rfl rfl rfl rfl hl.1 (Nat.le_of_ble_eq_true rfl) ⟨Nat.zero_le _, Nat.zero_le _⟩ dX6_read_28 (fun r_7 f_6 H locs hp hw => ?_)
  obtain ⟨er, hp⟩ := hp
  rw [← er]
  obtain ⟨z_8, zn_9, hR2, hfr2⟩ := hp
  obtain ⟨n_10, en_10⟩ : ∃ x, x = va_up (va_up n 7 0) 4 (((va_up n 7 0) 4) + 1) := ⟨_, rfl⟩
  obtain ⟨g_11, eg_11⟩ : ∃ x, x = va_up (va_up (va_up (va_up g 11 (upd (g 11) ((va_up n 7 0) 4) (nI 2))) 12 (upd (g 12) ((va_up n 7 0) 4) (nI i))) 14 (upd (g 14) ((va_up n 7 0) 4) (nI j))) 15 (rowB (g 15) (rowS (g 15) ((va_up n 7 0) 4) (nI 2) (nI i) (nI j)) ((va_up n 7 0) 4)) := ⟨_, rfl⟩
  rw [← en_10, ← eg_11] at hR2
  have hfr : ∀ y, (y < 302 ∨ 326 ≤ y) → f_6 y = f y := fun y hy => (hfr2 y hy).trans (hfr y hy)
  obtain ⟨c_302, c_303, c_304, c_305, c_306, c_307, c_308, c_309, c_310, c_311, c_312, c_313, c_314, c_315, c_316, c_317, c_318, c_319, c_320, c_321, c_322, c_323, c_324, c_325, hzn⟩ := hR2
  refine lv_if_eq (tgt := 38) hx hb dX6_read_31 (by decide) (fun _ => ?_) (fun h => False.elim (h (by decide)))
  refine lv_iconst (v := nI 0) hx hb dX6_read_38 (by decide) ?_
  have hRz : RepM ca ad n_10 g_11 z_8 zn_9 tb f_6 := ⟨c_302,
        c_303,
        c_304,
        c_305,
        c_306,
        c_307,
        c_308,
        c_309,
        c_310,
        c_311,
        c_312,
        c_313,
        c_314,
        c_315,
        c_316,
        c_317,
        c_318,
        c_319,
        c_320,
        c_321,
        c_322,
        c_323,
        c_324,
        c_325, hzn⟩
  exact x_iret hx hb hr hlocks hw ⟨rfl, z_8, zn_9, (by rw [eg_11, en_10] at hRz; exact hRz), (fun y hy => hfr y hy)⟩ dX6_read_39

set_option maxHeartbeats 4000000 in
set_option maxRecDepth 100000 in
theorem k_X6_read_noF (l : Launch) (D : va_G) (ca : Nat → ClassId) (N : Nat) (ad : Nat → Nat) (B tR tK : Nat) (f : Nat → va_E) (dd : xD N ad B) (hN : 326 ≤ N) (n : Nat → Nat) (g : Nat → Nat → Int32) (z : Nat → Nat → Int32) (zn : Nat) (tb : Nat → Int32) (hR : RepM ca ad n g z zn tb f) (i : Nat) (j : Nat) (zz : Nat) (h2 : n 2 ≤ 20) (hi : i < n 2) (hj : j ≤ 1000000) (hz : g 2 i = nI zz) (hz2 : zz ≤ 200) (hr9 : n 4 = 200) (hf : ¬ mFit g i i zz) : xMi l yX6_read wsX6_read rmX6_read [.ref (ad 302), .int (nI i), .int (nI j)] D ca N ad B tR tK f (fun r u => nI 0 = r ∧ ∃ (z1 : Nat → Nat → Int32) (zn1 : Nat), RepM ca ad (((va_up n 7 0))) g z1 zn1 tb u ∧ ∀ y, (y < 302 ∨ 326 ≤ y) → u y = f y) := by
  refine x_open (cc := cX6_read) (maxL := 3) (ret := (some .int)) (by decide) rfl (Nat.le_of_ble_eq_true rfl) ?_
  intro p e s m below meth c ls hx hb hml hown hts hr hlocks hnm hB hK hE hw hl
  have hown : s.vm.findClass RX6 = some m.cls := hown
  have hl : lv_has ls 3 [(0, .ref (ad 302)), (1, .int (nI i)), (2, .int (nI j))] := hl
  obtain ⟨c_302, c_303, c_304, c_305, c_306, c_307, c_308, c_309, c_310, c_311, c_312, c_313, c_314, c_315, c_316, c_317, c_318, c_319, c_320, c_321, c_322, c_323, c_324, c_325, hzn⟩ := hR
  have hin_7 : ∀ w ∈ u_ws RX6 TX6 32, w ∈ wsX6_read := by decide +kernel
  have hf_160 := hts (.fieldLink RX6 160 "FixityRowsModel" "thrown" "I") (by decide +kernel)
  have b_302 := c_302
  have b_303 := c_303
  have b_304 := c_304
  have b_305 := c_305
  have b_306 := c_306
  have b_307 := c_307
  have b_308 := c_308
  have b_309 := c_309
  have b_310 := c_310
  have b_311 := c_311
  have b_312 := c_312
  have b_313 := c_313
  have b_314 := c_314
  have b_315 := c_315
  have b_316 := c_316
  have b_317 := c_317
  have b_318 := c_318
  have b_319 := c_319
  have b_320 := c_320
  have b_321 := c_321
  have b_322 := c_322
  have b_323 := c_323
  have b_324 := c_324
  have b_325 := c_325
  refine lv_aload_n hx hb dX6_read_0 rfl (lv_at hl 0 rfl) ?_
  refine lv_iconst (v := nI 0) hx hb dX6_read_1 (by decide) ?_
  refine x_put (ci := 7) (C := RX6) (T := TX6) (n := 32) (ref := RX6) (fs' := mO ad 0 (n 0) (n 1) (n 2) (g 13 0) (n 3) (n 4) (n 5) zn) hx hb hts hin_7 tyX6 tyX6_ok nmX6 hown hK dd hw 302 (by omega) c_302 rfl 0 (by decide) hf_160 (fun _ h => h) rfl rfl rfl (Nat.le_of_ble_eq_true rfl) rfl dX6_read_2 (fun H locs hw => ?_)
  obtain ⟨f_1, ef_1⟩ : ∃ z, z = va_up f 302 (.inr (7, mO ad 0 (n 0) (n 1) (n 2) (g 13 0) (n 3) (n 4) (n 5) zn)) := ⟨_, rfl⟩
  have hw : xw D vwCl N ad B s.heap f_1 H locs := by rw [ef_1]; exact hw
  have c_302 : f_1 302 = .inr (7, mO ad 0 (n 0) (n 1) (n 2) (g 13 0) (n 3) (n 4) (n 5) zn) := va_up_of ef_1
  refine lv_aload_n hx hb dX6_read_5 rfl (lv_at hl 0 rfl) ?_
  refine lv_iload_n hx hb dX6_read_6 rfl (lv_at hl 1 rfl) ?_
  have c_303 : f_1 303 = ai (ca 1) 200 (g 0) := by rw [ef_1, va_up_ne _ _ (by decide)]; exact c_303
  have c_304 : f_1 304 = ai (ca 1) 4000 (g 1) := by rw [ef_1, va_up_ne _ _ (by decide)]; exact c_304
  have c_305 : f_1 305 = ai (ca 0) 20 (g 2) := by rw [ef_1, va_up_ne _ _ (by decide)]; exact c_305
  have c_306 : f_1 306 = ai (ca 0) 20 (g 3) := by rw [ef_1, va_up_ne _ _ (by decide)]; exact c_306
  have c_307 : f_1 307 = ai (ca 1) 720 (g 4) := by rw [ef_1, va_up_ne _ _ (by decide)]; exact c_307
  have c_308 : f_1 308 = ai (ca 0) 20 (g 5) := by rw [ef_1, va_up_ne _ _ (by decide)]; exact c_308
  have c_309 : f_1 309 = ai (ca 0) 20 (g 6) := by rw [ef_1, va_up_ne _ _ (by decide)]; exact c_309
  have c_310 : f_1 310 = ai (ca 0) 20 (g 7) := by rw [ef_1, va_up_ne _ _ (by decide)]; exact c_310
  have c_311 : f_1 311 = ai (ca 0) 20 (g 8) := by rw [ef_1, va_up_ne _ _ (by decide)]; exact c_311
  have c_312 : f_1 312 = ai (ca 0) 20 (g 9) := by rw [ef_1, va_up_ne _ _ (by decide)]; exact c_312
  have c_313 : f_1 313 = ai (ca 2) 20 (g 10) := by rw [ef_1, va_up_ne _ _ (by decide)]; exact c_313
  have c_314 : f_1 314 = ai (ca 0) 200 (g 11) := by rw [ef_1, va_up_ne _ _ (by decide)]; exact c_314
  have c_315 : f_1 315 = ai (ca 0) 200 (g 12) := by rw [ef_1, va_up_ne _ _ (by decide)]; exact c_315
  have c_316 : f_1 316 = ai (ca 0) 200 (g 14) := by rw [ef_1, va_up_ne _ _ (by decide)]; exact c_316
  have c_317 : f_1 317 = ai (ca 1) 6400 (g 15) := by rw [ef_1, va_up_ne _ _ (by decide)]; exact c_317
  have c_318 : f_1 318 = ai (ca 1) 32 (g 16) := by rw [ef_1, va_up_ne _ _ (by decide)]; exact c_318
  have c_319 : f_1 319 = ai (ca 1) 320 (z 0) := by rw [ef_1, va_up_ne _ _ (by decide)]; exact c_319
  have c_320 : f_1 320 = ai (ca 1) 36 (z 1) := by rw [ef_1, va_up_ne _ _ (by decide)]; exact c_320
  have c_321 : f_1 321 = ai (ca 0) 64 (z 2) := by rw [ef_1, va_up_ne _ _ (by decide)]; exact c_321
  have c_322 : f_1 322 = ai (ca 0) 8 (z 3) := by rw [ef_1, va_up_ne _ _ (by decide)]; exact c_322
  have c_323 : f_1 323 = ai (ca 0) 8 (z 4) := by rw [ef_1, va_up_ne _ _ (by decide)]; exact c_323
  have c_324 : f_1 324 = ai (ca 0) 8 shR := by rw [ef_1, va_up_ne _ _ (by decide)]; exact c_324
  have c_325 : f_1 325 = ai (ca 0) 64 shK := by rw [ef_1, va_up_ne _ _ (by decide)]; exact c_325
  have qn_0 : (va_up n 7 0) 0 = n 0 := by rw [va_up_ne _ _ (by decide)]
  have qn_1 : (va_up n 7 0) 1 = n 1 := by rw [va_up_ne _ _ (by decide)]
  have qn_2 : (va_up n 7 0) 2 = n 2 := by rw [va_up_ne _ _ (by decide)]
  have qn_3 : (va_up n 7 0) 3 = n 3 := by rw [va_up_ne _ _ (by decide)]
  have qn_4 : (va_up n 7 0) 4 = n 4 := by rw [va_up_ne _ _ (by decide)]
  have qn_5 : (va_up n 7 0) 5 = n 5 := by rw [va_up_ne _ _ (by decide)]
  have qn_6 : (va_up n 7 0) 6 = n 6 := by rw [va_up_ne _ _ (by decide)]
  have qn_7 : (va_up n 7 0) 7 = 0 := by rw [va_up_self]
  have hRk : RepM ca ad (va_up n 7 0) g z zn tb f_1 := ⟨(by rw [qn_7, qn_0, qn_1, qn_2, qn_3, qn_4, qn_5]; exact c_302),
        c_303,
        c_304,
        c_305,
        c_306,
        c_307,
        c_308,
        c_309,
        c_310,
        c_311,
        c_312,
        c_313,
        c_314,
        c_315,
        c_316,
        c_317,
        c_318,
        c_319,
        c_320,
        c_321,
        c_322,
        c_323,
        c_324,
        c_325, hzn⟩
  have hfr : ∀ y, (y < 302 ∨ 326 ≤ y) → f_1 y = f y := (fun y hy => by rw [ef_1, va_up_ne _ _ (by omega)])
  refine x_Vi (q := 302) (As := [.int (nI i)]) (rest := []) ⟨hx, hb, hml, hown, hts⟩ (k_X6_isFile_yes l D ca N ad B tR tK f_1 dd hN (va_up n 7 0) g z zn tb hRk i (by omega) (by omega)) (cwV 1 hts gX6_read_X6_isFile rfl rfl rfl (by decide +kernel) ⟨Nat.le_of_ble_eq_true rfl, Nat.le_of_ble_eq_true rfl⟩) hK hE hB hw (by omega) c_302 rfl rfl rfl rfl hl.1 (Nat.le_of_ble_eq_true rfl) ⟨Nat.zero_le _, Nat.zero_le _⟩ dX6_read_7 (fun r_3 f_2 H locs hp hw => ?_)
  obtain ⟨er, hp⟩ := hp
  rw [← er]
  rw [← hp] at hw
  refine lv_if_ne (tgt := 15) hx hb dX6_read_10 (by decide) (fun _ => ?_) (fun h => absurd h (by decide))
  refine lv_iload_n hx hb dX6_read_15 rfl (lv_at hl 2 rfl) ?_
  refine x_Si (As := [.int (nI j)]) (rest := []) ⟨hx, hb, hml, hown, hts⟩ (k_X6_isDay_yes l D ca N ad B tR tK f_1 dd j   (by omega)) (va_cwS 1 hts gX6_read_X6_isDay rfl rfl rfl (by decide +kernel) ⟨Nat.le_of_ble_eq_true rfl, Nat.le_of_ble_eq_true rfl⟩) hK hE hB hw rfl rfl hl.1 (Nat.le_of_ble_eq_true rfl) ⟨Nat.zero_le _, Nat.zero_le _⟩ dX6_read_16 (fun r_5 f_4 H locs hp hw => ?_)
  obtain ⟨er, eu⟩ := hp
  rw [← er]
  rw [← eu] at hw
  refine lv_if_ne (tgt := 25) hx hb dX6_read_19 (by decide) (fun _ => ?_) (fun h => absurd h (by decide))
  refine lv_aload_n hx hb dX6_read_25 rfl (lv_at hl 0 rfl) ?_
  refine lv_iload_n hx hb dX6_read_26 rfl (lv_at hl 1 rfl) ?_
  refine lv_iload_n hx hb dX6_read_27 rfl (lv_at hl 2 rfl) ?_
  have qn_0 : (va_up n 7 0) 0 = n 0 := by rw [va_up_ne _ _ (by decide)]
  have qn_1 : (va_up n 7 0) 1 = n 1 := by rw [va_up_ne _ _ (by decide)]
  have qn_2 : (va_up n 7 0) 2 = n 2 := by rw [va_up_ne _ _ (by decide)]
  have qn_3 : (va_up n 7 0) 3 = n 3 := by rw [va_up_ne _ _ (by decide)]
  have qn_4 : (va_up n 7 0) 4 = n 4 := by rw [va_up_ne _ _ (by decide)]
  have qn_5 : (va_up n 7 0) 5 = n 5 := by rw [va_up_ne _ _ (by decide)]
  have qn_6 : (va_up n 7 0) 6 = n 6 := by rw [va_up_ne _ _ (by decide)]
  have qn_7 : (va_up n 7 0) 7 = 0 := by rw [va_up_self]
  have hRk : RepM ca ad (va_up n 7 0) g z zn tb f_1 := ⟨(by rw [qn_7, qn_0, qn_1, qn_2, qn_3, qn_4, qn_5]; exact c_302),
        c_303,
        c_304,
        c_305,
        c_306,
        c_307,
        c_308,
        c_309,
        c_310,
        c_311,
        c_312,
        c_313,
        c_314,
        c_315,
        c_316,
        c_317,
        c_318,
        c_319,
        c_320,
        c_321,
        c_322,
        c_323,
        c_324,
        c_325, hzn⟩
  have hfr : ∀ y, (y < 302 ∨ 326 ≤ y) → f_1 y = f y := (fun y hy => by rw [ef_1, va_up_ne _ _ (by omega)])
  refine x_Vi (q := 302) (As := [.int (nI i), .int (nI j)]) (rest := []) ⟨hx, hb, hml, hown, hts⟩ (k_X6_check_noF l D ca N ad B tR tK f_1 dd hN (va_up n 7 0) g z zn tb hRk i (nI j) zz (by omega) hz (by omega) (by omega) hf) (cwV 2 hts gX6_read_X6_check rfl rfl rfl (by decide +kernel) ⟨Nat.le_of_ble_eq_true rfl, Nat.le_of_ble_eq_true rfl⟩) hK hE hB hw (by omega) c_302 rfl rfl rfl rfl hl.1 (Nat.le_of_ble_eq_true rfl) ⟨Nat.zero_le _, Nat.zero_le _⟩ dX6_read_28 (fun r_7 f_6 H locs hp hw => ?_)
  obtain ⟨er, hp⟩ := hp
  rw [← er]
  obtain ⟨z_8, zn_9, hR2, hfr2⟩ := hp
  obtain ⟨n_10, en_10⟩ : ∃ x, x = (va_up n 7 0) := ⟨_, rfl⟩
  rw [← en_10] at hR2
  have hfr : ∀ y, (y < 302 ∨ 326 ≤ y) → f_6 y = f y := fun y hy => (hfr2 y hy).trans (hfr y hy)
  obtain ⟨c_302, c_303, c_304, c_305, c_306, c_307, c_308, c_309, c_310, c_311, c_312, c_313, c_314, c_315, c_316, c_317, c_318, c_319, c_320, c_321, c_322, c_323, c_324, c_325, hzn⟩ := hR2
  refine lv_if_eq (tgt := 38) hx hb dX6_read_31 (by decide) (fun _ => ?_) (fun h => False.elim (h (by decide)))
  refine lv_iconst (v := nI 0) hx hb dX6_read_38 (by decide) ?_
  have hRz : RepM ca ad n_10 g z_8 zn_9 tb f_6 := ⟨c_302,
        c_303,
        c_304,
        c_305,
        c_306,
        c_307,
        c_308,
        c_309,
        c_310,
        c_311,
        c_312,
        c_313,
        c_314,
        c_315,
        c_316,
        c_317,
        c_318,
        c_319,
        c_320,
        c_321,
        c_322,
        c_323,
        c_324,
        c_325, hzn⟩
  exact x_iret hx hb hr hlocks hw ⟨rfl, z_8, zn_9, (by rw [en_10] at hRz; exact hRz), (fun y hy => hfr y hy)⟩ dX6_read_39

abbrev rmX6_first : Room := { frames := 1, cells := 0, slots := 0, locals := 22 }

set_option maxHeartbeats 4000000 in
set_option maxRecDepth 100000 in
theorem k_X6_first (l : Launch) (D : va_G) (ca : Nat → ClassId) (N : Nat) (ad : Nat → Nat) (B tR tK : Nat) (f : Nat → va_E) (dd : xD N ad B) (hN : 326 ≤ N) (n : Nat → Nat) (g : Nat → Nat → Int32) (z : Nat → Nat → Int32) (zn : Nat) (tb : Nat → Int32) (hR : RepM ca ad n g z zn tb f) (y : Int32) (h2 : n 2 ≤ 20) : xMi l yX6_first wsX6_first rmX6_first [.ref (ad 302), .int y] D ca N ad B tR tK f (fun r u => oI (lwM (g 7) y (n 2)) = r ∧ f = u) := by
  refine x_open (cc := cX6_first) (maxL := 4) (ret := (some .int)) (by decide) rfl (Nat.le_of_ble_eq_true rfl) ?_
  intro p e s m below meth c ls hx hb hml hown hts hr hlocks hnm hB hK hE hw hl
  have hown : s.vm.findClass RX6 = some m.cls := hown
  have hl : lv_has ls 4 [(0, .ref (ad 302)), (1, .int y)] := hl
  obtain ⟨c_302, c_303, c_304, c_305, c_306, c_307, c_308, c_309, c_310, c_311, c_312, c_313, c_314, c_315, c_316, c_317, c_318, c_319, c_320, c_321, c_322, c_323, c_324, c_325, hzn⟩ := hR
  have hin_7 : ∀ w ∈ u_ws RX6 TX6 32, w ∈ wsX6_first := by decide +kernel
  have hf_163 := hts (.fieldLink RX6 163 "FixityRowsModel" "files" "I") (by decide +kernel)
  have hf_32 := hts (.fieldLink RX6 32 "FixityRowsModel" "due" "[I") (by decide +kernel)
  have b_302 := c_302
  have b_303 := c_303
  have b_304 := c_304
  have b_305 := c_305
  have b_306 := c_306
  have b_307 := c_307
  have b_308 := c_308
  have b_309 := c_309
  have b_310 := c_310
  have b_311 := c_311
  have b_312 := c_312
  have b_313 := c_313
  have b_314 := c_314
  have b_315 := c_315
  have b_316 := c_316
  have b_317 := c_317
  have b_318 := c_318
  have b_319 := c_319
  have b_320 := c_320
  have b_321 := c_321
  have b_322 := c_322
  have b_323 := c_323
  have b_324 := c_324
  have b_325 := c_325
  have P_4 : ∀ (n_4 : Nat) (i : Nat) (H : Heap) (locs : List Loc) (ls : Array Slot), n 2 + 1 ≤ i + n_4 → (i ≤ n 2) → xw D vwCl N ad B s.heap (f) H locs → lv_has ls 4 [(0, .ref (ad 302)), (1, .int y), (2, .int (oI (lwM (g 7) y i))), (3, .int (nI i))] → W p l e rmX6_first s m ([.ref (ad 302), .int y] : List Value).toArray below meth c H locs 0 0 (MQ below (xQi (fun r u => oI (lwM (g 7) y (n 2)) = r ∧ f = u) D N ad B) ([.ref (ad 302), .int y] : List Value).toArray s 0 0 (xA B)) (F0 m 4 ls []) := by
    intro n_4
    induction n_4 with
    | zero =>
      intro i H locs ls hm_4 hi hw hl
      exact absurd hm_4 (by omega)
    | succ n_4 ih_4 =>
      intro i H locs ls hm_4 hi hw hl
      have c_302 := b_302
      have c_303 := b_303
      have c_304 := b_304
      have c_305 := b_305
      have c_306 := b_306
      have c_307 := b_307
      have c_308 := b_308
      have c_309 := b_309
      have c_310 := b_310
      have c_311 := b_311
      have c_312 := b_312
      have c_313 := b_313
      have c_314 := b_314
      have c_315 := b_315
      have c_316 := b_316
      have c_317 := b_317
      have c_318 := b_318
      have c_319 := b_319
      have c_320 := b_320
      have c_321 := b_321
      have c_322 := b_322
      have c_323 := b_323
      have c_324 := b_324
      have c_325 := b_325
      refine lv_iload_n hx hb dX6_first_4 rfl (lv_at hl 3 rfl) ?_
      refine lv_aload_n hx hb dX6_first_5 rfl (lv_at hl 0 rfl) ?_
      refine x_get (ci := 7) (C := RX6) (T := TX6) (n := 32) (ref := RX6) hx hb hts hin_7 hown hK hw 302 (by omega) c_302 rfl 4 (by decide) hf_163 (fun _ h => h) rfl dX6_first_6 ?_
      refine n_icge (tgt := 53) hx hb dX6_first_9 (by decide) (by omega) (by omega) (fun hc_9 => ?_) (fun hc_9 => ?_)
      · refine lv_iload_n hx hb dX6_first_53 rfl (lv_at hl 2 rfl) ?_
        exact x_iret hx hb hr hlocks hw ⟨(by have ei : i = n 2 := (by omega); rw [ei]), rfl⟩ dX6_first_54
      · refine lv_aload_n hx hb dX6_first_12 rfl (lv_at hl 0 rfl) ?_
        refine lv_iload_n hx hb dX6_first_13 rfl (lv_at hl 3 rfl) ?_
        refine lv_iload_n hx hb dX6_first_14 rfl (lv_at hl 1 rfl) ?_
        refine x_Vi (q := 302) (As := [.int (nI i), .int y]) (rest := []) ⟨hx, hb, hml, hown, hts⟩ (k_X6_isDue l D ca N ad B tR tK f dd (n 7) (n 0) (n 1) (n 2) (g 13 0) (n 3) (n 4) (n 5) zn (g 7) i y c_302 c_310  (by omega) (by omega)) (cwV 2 hts gX6_first_X6_isDue rfl rfl rfl (by decide +kernel) ⟨Nat.le_of_ble_eq_true rfl, Nat.le_of_ble_eq_true rfl⟩) hK hE hB hw (by omega) c_302 rfl rfl rfl rfl hl.1 (Nat.le_of_ble_eq_true rfl) ⟨Nat.zero_le _, Nat.zero_le _⟩ dX6_first_15 (fun r_2 f_1 H locs hp hw => ?_)
        obtain ⟨er, eu⟩ := hp
        rw [← er]
        rw [← eu] at hw
        refine lv_if_eq (tgt := 45) hx hb dX6_first_18 (by decide) (fun hc_18 => ?_) (fun hc_18 => ?_)
        · refine lv_iload_n hx hb dX6_first_45 rfl (lv_at hl 2 rfl) ?_
          refine lv_topi (fun x_3 ex_3 => ?_)
          refine lv_istore_n (lv' := [(2, .int x_3), (0, .ref (ad 302)), (1, .int y), (3, .int (nI i))]) hx hb dX6_first_46 rfl hl (by decide) rfl (fun ls hl => ?_)
          refine lv_iinc (v := nI (i + 1)) (lv' := [(3, .int (nI (i + 1))), (2, .int x_3), (0, .ref (ad 302)), (1, .int y)]) hx hb dX6_first_47 hl (k := 3) rfl (by rw [show Int32.ofInt 1 = nI 1 from rfl]; exact nI_add _ _) (by decide) rfl (fun ls hl => ?_)
          refine lv_goto (tgt := 4) hx hb dX6_first_50 (by decide) ?_
          exact ih_4 (i + 1) _ _ _ (by omega) (by omega) hw (by have hl := lv_sub (l' := [(0, .ref (ad 302)), (1, .int y), (2, .int x_3), (3, .int (nI (i + 1)))]) hl [2, 3, 1, 0] rfl; (try simp only [ex_3, and_self] at hl); first | (rw [lwM_no (bI_z hc_18)]; exact hl) | (rw [lwM_first (by omega) (bI_nz hc_18) hc_23]; exact hl) | (rw [lwM_less (bI_nz hc_18) ejb hc_38]; exact hl) | (rw [lwM_keep ejb hc_38]; exact hl))
        · refine lv_iload_n hx hb dX6_first_21 rfl (lv_at hl 2 rfl) ?_
          refine lv_iconst (v := (-1)) hx hb dX6_first_22 (by decide) ?_
          refine lv_icmp_eq (tgt := 41) hx hb dX6_first_23 (by decide) (fun hc_23 => ?_) (fun hc_23 => ?_)
          · refine lv_iload_n hx hb dX6_first_41 rfl (lv_at hl 3 rfl) ?_
            refine lv_goto (tgt := 46) hx hb dX6_first_42 (by decide) ?_
            refine lv_istore_n (lv' := [(2, .int (nI i)), (0, .ref (ad 302)), (1, .int y), (3, .int (nI i))]) hx hb dX6_first_46 rfl hl (by decide) rfl (fun ls hl => ?_)
            refine lv_iinc (v := nI (i + 1)) (lv' := [(3, .int (nI (i + 1))), (2, .int (nI i)), (0, .ref (ad 302)), (1, .int y)]) hx hb dX6_first_47 hl (k := 3) rfl (by rw [show Int32.ofInt 1 = nI 1 from rfl]; exact nI_add _ _) (by decide) rfl (fun ls hl => ?_)
            refine lv_goto (tgt := 4) hx hb dX6_first_50 (by decide) ?_
            exact ih_4 (i + 1) _ _ _ (by omega) (by omega) hw (by have hl := lv_sub (l' := [(0, .ref (ad 302)), (1, .int y), (2, .int (nI i)), (3, .int (nI (i + 1)))]) hl [2, 3, 1, 0] rfl; (try simp only [and_self] at hl); first | (rw [lwM_no (bI_z hc_18)]; exact hl) | (rw [lwM_first (by omega) (bI_nz hc_18) hc_23]; exact hl) | (rw [lwM_less (bI_nz hc_18) ejb hc_38]; exact hl) | (rw [lwM_keep ejb hc_38]; exact hl))
          · obtain ⟨jb, ejb⟩ := oI_some hc_23
            have hjb := lwM_lt _ _ _ _ ejb
            refine lv_aload_n hx hb dX6_first_26 rfl (lv_at hl 0 rfl) ?_
            refine x_get (ci := 7) (C := RX6) (T := TX6) (n := 32) (ref := RX6) hx hb hts hin_7 hown hK hw 302 (by omega) c_302 rfl 11 (by decide) hf_32 (fun _ h => h) rfl dX6_first_27 ?_
            refine lv_iload_n hx hb dX6_first_30 rfl (lv_at hl 3 rfl) ?_
            refine x_iald (j := i) hx hb hK hw 310 0 (by omega) c_310 rfl rfl (by omega) (by decide) dX6_first_31 ?_
            refine lv_aload_n hx hb dX6_first_32 rfl (lv_at hl 0 rfl) ?_
            refine x_get (ci := 7) (C := RX6) (T := TX6) (n := 32) (ref := RX6) hx hb hts hin_7 hown hK hw 302 (by omega) c_302 rfl 11 (by decide) hf_32 (fun _ h => h) rfl dX6_first_33 ?_
            refine lv_iload_n hx hb dX6_first_36 rfl (lv_at hl 2 rfl) ?_
            refine x_iald (j := jb) hx hb hK hw 310 0 (by omega) c_310 rfl (by rw [ejb]; rfl) (by omega) (by decide) dX6_first_37 ?_
            refine lv_icmp_ge (tgt := 45) hx hb dX6_first_38 (by decide) (fun hc_38 => ?_) (fun hc_38 => ?_)
            · refine lv_iload_n hx hb dX6_first_45 rfl (lv_at hl 2 rfl) ?_
              refine lv_topi (fun x_4 ex_4 => ?_)
              refine lv_istore_n (lv' := [(2, .int x_4), (0, .ref (ad 302)), (1, .int y), (3, .int (nI i))]) hx hb dX6_first_46 rfl hl (by decide) rfl (fun ls hl => ?_)
              refine lv_iinc (v := nI (i + 1)) (lv' := [(3, .int (nI (i + 1))), (2, .int x_4), (0, .ref (ad 302)), (1, .int y)]) hx hb dX6_first_47 hl (k := 3) rfl (by rw [show Int32.ofInt 1 = nI 1 from rfl]; exact nI_add _ _) (by decide) rfl (fun ls hl => ?_)
              refine lv_goto (tgt := 4) hx hb dX6_first_50 (by decide) ?_
              exact ih_4 (i + 1) _ _ _ (by omega) (by omega) hw (by have hl := lv_sub (l' := [(0, .ref (ad 302)), (1, .int y), (2, .int x_4), (3, .int (nI (i + 1)))]) hl [2, 3, 1, 0] rfl; (try simp only [ex_4, and_self] at hl); first | (rw [lwM_no (bI_z hc_18)]; exact hl) | (rw [lwM_first (by omega) (bI_nz hc_18) hc_23]; exact hl) | (rw [lwM_less (bI_nz hc_18) ejb hc_38]; exact hl) | (rw [lwM_keep ejb hc_38]; exact hl))
            · refine lv_iload_n hx hb dX6_first_41 rfl (lv_at hl 3 rfl) ?_
              refine lv_goto (tgt := 46) hx hb dX6_first_42 (by decide) ?_
              refine lv_istore_n (lv' := [(2, .int (nI i)), (0, .ref (ad 302)), (1, .int y), (3, .int (nI i))]) hx hb dX6_first_46 rfl hl (by decide) rfl (fun ls hl => ?_)
              refine lv_iinc (v := nI (i + 1)) (lv' := [(3, .int (nI (i + 1))), (2, .int (nI i)), (0, .ref (ad 302)), (1, .int y)]) hx hb dX6_first_47 hl (k := 3) rfl (by rw [show Int32.ofInt 1 = nI 1 from rfl]; exact nI_add _ _) (by decide) rfl (fun ls hl => ?_)
              refine lv_goto (tgt := 4) hx hb dX6_first_50 (by decide) ?_
              exact ih_4 (i + 1) _ _ _ (by omega) (by omega) hw (by have hl := lv_sub (l' := [(0, .ref (ad 302)), (1, .int y), (2, .int (nI i)), (3, .int (nI (i + 1)))]) hl [2, 3, 1, 0] rfl; (try simp only [and_self] at hl); first | (rw [lwM_no (bI_z hc_18)]; exact hl) | (rw [lwM_first (by omega) (bI_nz hc_18) hc_23]; exact hl) | (rw [lwM_less (bI_nz hc_18) ejb hc_38]; exact hl) | (rw [lwM_keep ejb hc_38]; exact hl))
  refine lv_iconst (v := (-1)) hx hb dX6_first_0 (by decide) ?_
  refine lv_istore_n (lv' := [(2, .int ((-1))), (0, .ref (ad 302)), (1, .int y)]) hx hb dX6_first_1 rfl hl (by decide) rfl (fun ls hl => ?_)
  refine lv_iconst (v := nI 0) hx hb dX6_first_2 (by decide) ?_
  refine lv_istore_n (lv' := [(3, .int (nI 0)), (2, .int ((-1))), (0, .ref (ad 302)), (1, .int y)]) hx hb dX6_first_3 rfl hl (by decide) rfl (fun ls hl => ?_)
  exact P_4 ((n 2 + 1)) 0 _ _ _ (by omega) (by omega) hw (lv_sub hl [2, 3, 1, 0] rfl)
