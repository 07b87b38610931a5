/-- the reference's cells hold the state: n its counts, g its rows of numbers; z, zn scratch -/
def RepM (ca : Nat → ClassId) (ad : Nat → Nat) (n : Nat → Nat) (g : Nat → Nat → Int32) (z : Nat → Nat → Int32) (zn : Nat) (tb : Nat → Int32) (f : Nat → va_E) : Prop :=
  f 302 = .inr (7, mO ad (n 7) (n 0) (n 1) (n 2) (g 13 0) (n 3) (n 4) (n 5) zn) ∧
  f 303 = ai (ca 1) 200 (g 0) ∧
  f 304 = ai (ca 1) 4000 (g 1) ∧
  f 305 = ai (ca 0) 20 (g 2) ∧
  f 306 = ai (ca 0) 20 (g 3) ∧
  f 307 = ai (ca 1) 720 (g 4) ∧
  f 308 = ai (ca 0) 20 (g 5) ∧
  f 309 = ai (ca 0) 20 (g 6) ∧
  f 310 = ai (ca 0) 20 (g 7) ∧
  f 311 = ai (ca 0) 20 (g 8) ∧
  f 312 = ai (ca 0) 20 (g 9) ∧
  f 313 = ai (ca 2) 20 (g 10) ∧
  f 314 = ai (ca 0) 200 (g 11) ∧
  f 315 = ai (ca 0) 200 (g 12) ∧
  f 316 = ai (ca 0) 200 (g 14) ∧
  f 317 = ai (ca 1) 6400 (g 15) ∧
  f 318 = ai (ca 1) 32 (g 16) ∧
  f 319 = ai (ca 1) 320 (z 0) ∧
  f 320 = ai (ca 1) 36 (z 1) ∧
  f 321 = ai (ca 0) 64 (z 2) ∧
  f 322 = ai (ca 0) 8 (z 3) ∧
  f 323 = ai (ca 0) 8 (z 4) ∧
  f 324 = ai (ca 0) 8 shR ∧
  f 325 = ai (ca 0) 64 shK ∧
  zn ≤ 200

theorem cpB_at {bf sa : Nat → Int32} {n i : Nat} (h : i < n) : cpB bf sa n i &&& nI 255 = sa i &&& nI 255 := by
  unfold cpB
  rw [if_pos h, i8_255]
def prevB (rdg : Nat → Int32) (i k : Nat) : Int32 := if i = 0 then nI 0 else rdg (32 * i - 32 + k)
/-- the row's 44 bytes as they are kept -/
def chB (bf rdg : Nat → Int32) (i : Nat) (a b c : Int32) : Nat → Int32 := nbr (nbr (nbr (cpB bf (prevB rdg i) 32) 32 a) (32 + 4) b) (32 + 4 + 4) c
def cpR (rdg md : Nat → Int32) (r k : Nat) : Nat → Int32 := fun x => if 32 * r ≤ x ∧ x < 32 * r + k then (md (x - 32 * r)).toInt8.toInt32 else rdg x
theorem cpR_0 (rdg md : Nat → Int32) (r : Nat) : cpR rdg md r 0 = rdg := by
  funext x
  exact if_neg (by omega)
theorem cpR_s (rdg md : Nat → Int32) (r k : Nat) : upd (cpR rdg md r k) (32 * r + k) (md k).toInt8.toInt32 = cpR rdg md r (k + 1) := by
  funext x
  by_cases e : x = 32 * r + k
  · subst e
    rw [pk_us]
    unfold cpR
    rw [if_pos (by omega), Nat.add_sub_cancel_left]
  · rw [pk_un e]
    unfold cpR
    by_cases h : 32 * r ≤ x ∧ x < 32 * r + k
    · rw [if_pos h, if_pos (by omega)]
    · rw [if_neg h, if_neg (by omega)]

abbrev rmX6_fits : Room := { frames := 5, cells := 0, slots := 0, locals := 115 }

theorem up_fit (f : Nat → va_E) (o b b' x y z m : va_E) : va_up (va_up (va_up (va_up (va_up (va_up (va_up f 302 o) 319 b) 319 b') 321 x) 323 y) 322 z) 320 m = va_up (va_up (va_up (va_up (va_up (va_up f 302 o) 319 b') 321 x) 323 y) 322 z) 320 m := by
  rw [up_aa]

set_option maxHeartbeats 4000000 in
set_option maxRecDepth 100000 in
theorem k_X6_fits (l : Launch) (D : va_G) (ca : Nat → ClassId) (N : Nat) (ad : Nat → Nat) (B tR tK : Nat) (f : Nat → va_E) (dd : xD N ad B) (th : Nat) (cap : Nat) (cl : Nat) (fs : Nat) (wk : Int32) (td : Nat) (rw : Nat) (sh : Nat) (fi : Nat) (al : Nat → Int32) (wt : Nat → Int32) (bf : Nat → Int32) (md : Nat → Int32) (ww : Nat → Int32) (hh : Nat → Int32) (vv : Nat → Int32) (bb : Nat → Int32) (sz : Nat → Int32) (i : Nat) (zz : Nat) (c_302 : f 302 = .inr (7, mO ad th cap cl fs wk td rw sh fi)) (c_306 : f 306 = ai (ca 0) 20 al) (c_307 : f 307 = ai (ca 1) 720 wt) (c_319 : f 319 = ai (ca 1) 320 bf) (c_320 : f 320 = ai (ca 1) 36 md) (c_321 : f 321 = ai (ca 0) 64 ww) (c_322 : f 322 = ai (ca 0) 8 hh) (c_323 : f 323 = ai (ca 0) 8 vv) (c_324 : f 324 = ai (ca 0) 8 shR) (c_325 : f 325 = ai (ca 0) 64 shK) (c_304 : f 304 = ai (ca 1) 4000 bb) (c_305 : f 305 = ai (ca 0) 20 sz)  (hN : 326 ≤ N) (hi : i < 20) (hz : sz i = nI zz) (hz2 : zz ≤ 200) : xMi l yX6_fits wsX6_fits rmX6_fits [.ref (ad 302), .int (nI i)] D ca N ad B tR tK f (fun r u => ∃ b1 : Nat → Int32, ∃ w1 : Nat → Int32, ∃ v1 : Nat → Int32, ∃ h1 : Nat → Int32, ∃ m1 : Nat → Int32, (∀ i9, i9 < zz → b1 i9 &&& nI 255 = bb (200 * i + i9) &&& nI 255) ∧ bI (hasM wt i (sha zz (fun x => bb (200 * i + x) &&& nI 255)) (crM (fun x => bb (200 * i + x)) zz ^^^ (-1)) (al i)) = r ∧ u = va_up (va_up (va_up (va_up (va_up (va_up f 302 (.inr (7, mO ad th cap cl fs wk td rw sh zz))) 319 (ai (ca 1) 320 b1)) 321 (ai (ca 0) 64 w1)) 323 (ai (ca 0) 8 v1)) 322 (ai (ca 0) 8 h1)) 320 (ai (ca 1) 36 m1)) := by
  refine x_open (cc := cX6_fits) (maxL := 2) (ret := (some .boolean)) (by decide) rfl (Nat.le_of_ble_eq_true rfl) ?_
  intro p e s m below meth c ls hx hb hml hown hts hr hlocks hnm hB hK hE hw hl
  have hown : s.vm.findClass RX6 = some m.cls := hown
  have hl : lv_has ls 2 [(0, .ref (ad 302)), (1, .int (nI i))] := hl
  have b_302 := c_302
  have b_306 := c_306
  have b_307 := c_307
  have b_319 := c_319
  have b_320 := c_320
  have b_321 := c_321
  have b_322 := c_322
  have b_323 := c_323
  have b_324 := c_324
  have b_325 := c_325
  have b_304 := c_304
  have b_305 := c_305
  refine lv_aload_n hx hb dX6_fits_0 rfl (lv_at hl 0 rfl) ?_
  refine lv_iload_n hx hb dX6_fits_1 rfl (lv_at hl 1 rfl) ?_
  refine x_Vv (q := 302) (As := [.int (nI i)]) (rest := []) ⟨hx, hb, hml, hown, hts⟩ (k_X6_fill l D ca N ad B tR tK f dd th cap cl fs wk td rw sh fi bf bb sz i zz c_302 c_304 c_305 c_319  (by omega) (by omega) hz (by omega)) (cwV 1 hts gX6_fits_X6_fill rfl rfl rfl (by decide +kernel) ⟨Nat.le_of_ble_eq_true rfl, Nat.le_of_ble_eq_true rfl⟩) hK hE hB hw (by omega) c_302 rfl rfl rfl rfl hl.1 (Nat.le_of_ble_eq_true rfl) ⟨Nat.zero_le _, Nat.zero_le _⟩ dX6_fits_2 (fun f_1 H locs hp hw => ?_)
  have eu := hp
  have ef_1 : f_1 = va_up (va_up f 302 (.inr (7, mO ad th cap cl fs wk td rw sh zz))) 319 (ai (ca 1) 320 (cpB bf (fun x => bb (200 * i + x)) zz)) := eu
  have c_302 : f_1 302 = .inr (7, mO ad th cap cl fs wk td rw sh zz) := by rw [ef_1, va_up_ne _ _ (by decide), va_up_self]
  have c_319 : f_1 319 = ai (ca 1) 320 (cpB bf (fun x => bb (200 * i + x)) zz) := by rw [ef_1, va_up_self]
  refine lv_aload_n hx hb dX6_fits_5 rfl (lv_at hl 0 rfl) ?_
  refine lv_iload_n hx hb dX6_fits_6 rfl (lv_at hl 1 rfl) ?_
  have c_306 : f_1 306 = ai (ca 0) 20 al := by rw [ef_1, va_up_ne _ _ (by decide), va_up_ne _ _ (by decide)]; exact c_306
  have c_307 : f_1 307 = ai (ca 1) 720 wt := by rw [ef_1, va_up_ne _ _ (by decide), va_up_ne _ _ (by decide)]; exact c_307
  have c_320 : f_1 320 = ai (ca 1) 36 md := by rw [ef_1, va_up_ne _ _ (by decide), va_up_ne _ _ (by decide)]; exact c_320
  have c_321 : f_1 321 = ai (ca 0) 64 ww := by rw [ef_1, va_up_ne _ _ (by decide), va_up_ne _ _ (by decide)]; exact c_321
  have c_322 : f_1 322 = ai (ca 0) 8 hh := by rw [ef_1, va_up_ne _ _ (by decide), va_up_ne _ _ (by decide)]; exact c_322
  have c_323 : f_1 323 = ai (ca 0) 8 vv := by rw [ef_1, va_up_ne _ _ (by decide), va_up_ne _ _ (by decide)]; exact c_323
  have c_324 : f_1 324 = ai (ca 0) 8 shR := by rw [ef_1, va_up_ne _ _ (by decide), va_up_ne _ _ (by decide)]; exact c_324
  have c_325 : f_1 325 = ai (ca 0) 64 shK := by rw [ef_1, va_up_ne _ _ (by decide), va_up_ne _ _ (by decide)]; exact c_325
  refine x_Vi (q := 302) (As := [.int (nI i)]) (rest := []) ⟨hx, hb, hml, hown, hts⟩ (k_X6_has l D ca N ad B tR tK f_1 dd th cap cl fs wk td rw sh zz al wt (cpB bf (fun x => bb (200 * i + x)) zz) md ww hh vv i c_302 c_306 c_307 c_319 c_320 c_321 c_322 c_323 c_324 c_325  (by omega) (by omega) (by omega)) (cwV 1 hts gX6_fits_X6_has rfl rfl rfl (by decide +kernel) ⟨Nat.le_of_ble_eq_true rfl, Nat.le_of_ble_eq_true rfl⟩) hK hE hB hw (by omega) c_302 rfl rfl rfl rfl hl.1 (Nat.le_of_ble_eq_true rfl) ⟨Nat.zero_le _, Nat.zero_le _⟩ dX6_fits_7 (fun r_4 f_3 H locs hp hw => ?_)
  obtain ⟨b1_5, w1_6, v1_7, h1_8, m1_9, hq_10, er, eu⟩ := hp
  rw [← er]
  have ef_3 : f_3 = va_up (va_up (va_up (va_up (va_up f_1 319 (ai (ca 1) 320 b1_5)) 321 (ai (ca 0) 64 w1_6)) 323 (ai (ca 0) 8 v1_7)) 322 (ai (ca 0) 8 h1_8)) 320 (ai (ca 1) 36 m1_9) := eu
  have c_319 : f_3 319 = ai (ca 1) 320 b1_5 := by rw [ef_3, va_up_ne _ _ (by decide), va_up_ne _ _ (by decide), va_up_ne _ _ (by decide), va_up_ne _ _ (by decide), va_up_self]
  have c_321 : f_3 321 = ai (ca 0) 64 w1_6 := by rw [ef_3, va_up_ne _ _ (by decide), va_up_ne _ _ (by decide), va_up_ne _ _ (by decide), va_up_self]
  have c_323 : f_3 323 = ai (ca 0) 8 v1_7 := by rw [ef_3, va_up_ne _ _ (by decide), va_up_ne _ _ (by decide), va_up_self]
  have c_322 : f_3 322 = ai (ca 0) 8 h1_8 := by rw [ef_3, va_up_ne _ _ (by decide), va_up_self]
  have c_320 : f_3 320 = ai (ca 1) 36 m1_9 := by rw [ef_3, va_up_self]
  exact x_zret hx hb hr hlocks hw (bI_01 _) ⟨b1_5, w1_6, v1_7, h1_8, m1_9, (fun q hq => by rw [hq_10 q hq, cpB_at hq]), (by rw [sha_ext (g := fun i7 => cpB bf (fun x => bb (200 * i + x)) zz i7 &&& nI 255) (fun q hq => cpB_at hq), crM_ext (b := cpB bf (fun x => bb (200 * i + x)) zz) zz (fun q hq => cpB_at hq)]), (by simp only [ef_3, ef_1, up_fit])⟩ dX6_fits_10
