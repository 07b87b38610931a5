theorem nbr_ext {g g' : Nat → Int32} {k : Nat} {x : Int32} {n : Nat} (h : ∀ i, i < n → (i < k ∨ k + 4 ≤ i) → g i = g' i) : ∀ i, i < n → nbr g k x i = nbr g' k x i := by
  intro i hi
  unfold nbr
  by_cases h3 : i = k + 1 + 1 + 1
  · rw [h3, pk_us, pk_us]
  · rw [pk_un h3, pk_un h3]
    by_cases h2 : i = k + 1 + 1
    · rw [h2, pk_us, pk_us]
    · rw [pk_un h2, pk_un h2]
      by_cases h1 : i = k + 1
      · rw [h1, pk_us, pk_us]
      · rw [pk_un h1, pk_un h1]
        by_cases h0 : i = k
        · rw [h0, pk_us, pk_us]
        · rw [pk_un h0, pk_un h0]; exact h i hi (by omega)
def rowB (r S : Nat → Int32) (k : Nat) : Nat → Int32 := fun x => if 32 * k ≤ x ∧ x < 32 * k + 32 then (jushr (S ((x - 32 * k) / 4)) (nI (24 - 8 * ((x - 32 * k) % 4)))).toInt8.toInt32 else r x
theorem cpR_mkf (r md S : Nat → Int32) (k : Nat) : cpR r (mkf md S 32) k 32 = rowB r S k := by
  funext x
  unfold cpR rowB
  by_cases h : 32 * k ≤ x ∧ x < 32 * k + 32
  · rw [if_pos h, if_pos h]
    unfold mkf
    rw [if_pos (by omega), i8_i8]
  · rw [if_neg h, if_neg h]
def rowS (rdg : Nat → Int32) (i : Nat) (a b c : Int32) : Nat → Int32 := sha 44 (fun x => chB (fun _ => 0) rdg i a b c x &&& nI 255)
theorem chB_ext (bf bf' rdg : Nat → Int32) (i : Nat) (a b c : Int32) : ∀ x, x < 44 → chB bf rdg i a b c x = chB bf' rdg i a b c x := by
  refine nbr_ext (fun x hx qx => nbr_ext (n := 40) (fun y hy qy => nbr_ext (n := 36) (fun w hw qw => ?_) y (by omega)) x (by omega))
  unfold cpB
  by_cases h : w < 32
  · rw [if_pos h, if_pos h]
  · omega
theorem rowS_of (bf rdg : Nat → Int32) (i : Nat) (a b c : Int32) : sha 44 (fun x => chB bf rdg i a b c x &&& nI 255) = rowS rdg i a b c := sha_ext (fun x hx => by rw [chB_ext bf (fun _ => 0) rdg i a b c x hx])
theorem up_ch (f : Nat → va_E) (o b o1 b1 o2 b2 o3 b3 b4 x y z m : va_E) : va_up (va_up (va_up (va_up (va_up (va_up (va_up (va_up (va_up (va_up (va_up (va_up (va_up f 302 o) 319 b) 302 o1) 319 b1) 302 o2) 319 b2) 302 o3) 319 b3) 319 b4) 321 x) 323 y) 322 z) 320 m = va_up (va_up (va_up (va_up (va_up (va_up f 302 o3) 319 b4) 321 x) 323 y) 322 z) 320 m := by
  rw [up_aa, up_aba _ _ _ _ (show (302 : Nat) ≠ 319 by decide), up_aa, up_aba _ _ _ _ (show (302 : Nat) ≠ 319 by decide), up_aa, up_aba _ _ _ _ (show (302 : Nat) ≠ 319 by decide), up_aa]

abbrev rmX6_chained : Room := { frames := 4, cells := 0, slots := 0, locals := 92 }

set_option maxHeartbeats 4000000 in
set_option maxRecDepth 100000 in
theorem k_X6_chained (l : Launch) (D : va_G) (ca : Nat → ClassId) (N : Nat) (ad : Nat → Nat) (B tR tK : Nat) (f : Nat → va_E) (dd : xD N ad B) (th : Nat) (cap : Nat) (cl : Nat) (fs : Nat) (wk : Int32) (td : Nat) (rw : Nat) (sh : Nat) (fi : Nat) (rk : Nat → Int32) (rf : Nat → Int32) (rdy : Nat → Int32) (rdg : Nat → Int32) (bf : Nat → Int32) (md : Nat → Int32) (ww : Nat → Int32) (hh : Nat → Int32) (vv : Nat → Int32) (i : Nat) (c_302 : f 302 = .inr (7, mO ad th cap cl fs wk td rw sh fi)) (c_314 : f 314 = ai (ca 0) 200 rk) (c_315 : f 315 = ai (ca 0) 200 rf) (c_316 : f 316 = ai (ca 0) 200 rdy) (c_317 : f 317 = ai (ca 1) 6400 rdg) (c_319 : f 319 = ai (ca 1) 320 bf) (c_320 : f 320 = ai (ca 1) 36 md) (c_321 : f 321 = ai (ca 0) 64 ww) (c_322 : f 322 = ai (ca 0) 8 hh) (c_323 : f 323 = ai (ca 0) 8 vv) (c_324 : f 324 = ai (ca 0) 8 shR) (c_325 : f 325 = ai (ca 0) 64 shK)  (hN : 326 ≤ N) (hi : i < 200) : xMv l yX6_chained wsX6_chained rmX6_chained [.ref (ad 302), .int (nI i)] D ca N ad B tR tK f (fun u => ∃ b1 : Nat → Int32, ∃ w1 : Nat → Int32, ∃ v1 : Nat → Int32, ∃ h1 : Nat → Int32, u = va_up (va_up (va_up (va_up (va_up (va_up f 302 (.inr (7, mO ad th cap cl fs wk td rw sh 44))) 319 (ai (ca 1) 320 b1)) 321 (ai (ca 0) 64 w1)) 323 (ai (ca 0) 8 v1)) 322 (ai (ca 0) 8 h1)) 320 (ai (ca 1) 36 (mkf md (rowS rdg i (rk i) (rf i) (rdy i)) 32))) := by
  refine x_open (cc := cX6_chained) (maxL := 3) (ret := none) (by decide) rfl (Nat.le_of_ble_eq_true rfl) ?_
  intro p e s m below meth c ls hx hb hml hown hts hr hlocks hnm hB hK hE hw hl
  have hown : s.vm.findClass RX6 = some m.cls := hown
  have hl : lv_has ls 3 [(0, .ref (ad 302)), (1, .int (nI i))] := hl
  have hin_7 : ∀ w ∈ u_ws RX6 TX6 32, w ∈ wsX6_chained := by decide +kernel
  have hf_49 := hts (.fieldLink RX6 49 "FixityRowsModel" "rowWhat" "[I") (by decide +kernel)
  have hf_52 := hts (.fieldLink RX6 52 "FixityRowsModel" "rowFile" "[I") (by decide +kernel)
  have hf_55 := hts (.fieldLink RX6 55 "FixityRowsModel" "rowDay" "[I") (by decide +kernel)
  have hf_64 := hts (.fieldLink RX6 64 "FixityRowsModel" "buffer" "[B") (by decide +kernel)
  have hf_58 := hts (.fieldLink RX6 58 "FixityRowsModel" "rowDigest" "[B") (by decide +kernel)
  have hf_179 := hts (.fieldLink RX6 179 "FixityRowsModel" "filled" "I") (by decide +kernel)
  have b_302 := c_302
  have b_314 := c_314
  have b_315 := c_315
  have b_316 := c_316
  have b_317 := c_317
  have b_319 := c_319
  have b_320 := c_320
  have b_321 := c_321
  have b_322 := c_322
  have b_323 := c_323
  have b_324 := c_324
  have b_325 := c_325
  have P_48 : ∀ (H : Heap) (locs : List Loc) (ls : Array Slot), xw D vwCl N ad B s.heap (va_up (va_up f 302 (.inr (7, mO ad th cap cl fs wk td rw sh 32))) 319 (ai (ca 1) 320 (cpB bf (prevB rdg i) 32))) H locs → lv_has ls 3 [(0, .ref (ad 302)), (1, .int (nI i))] → W p l e rmX6_chained s m ([.ref (ad 302), .int (nI i)] : List Value).toArray below meth c H locs 0 0 (MQ below (xQv (fun u => ∃ b1 : Nat → Int32, ∃ w1 : Nat → Int32, ∃ v1 : Nat → Int32, ∃ h1 : Nat → Int32, u = va_up (va_up (va_up (va_up (va_up (va_up f 302 (.inr (7, mO ad th cap cl fs wk td rw sh 44))) 319 (ai (ca 1) 320 b1)) 321 (ai (ca 0) 64 w1)) 323 (ai (ca 0) 8 v1)) 322 (ai (ca 0) 8 h1)) 320 (ai (ca 1) 36 (mkf md (rowS rdg i (rk i) (rf i) (rdy i)) 32))) D N ad B) ([.ref (ad 302), .int (nI i)] : List Value).toArray s 0 0 (xA B)) (F0 m 48 ls []) := by
    intro H locs ls hw hl
    have c_302 := b_302
    have c_314 := b_314
    have c_315 := b_315
    have c_316 := b_316
    have c_317 := b_317
    have c_319 := b_319
    have c_320 := b_320
    have c_321 := b_321
    have c_322 := b_322
    have c_323 := b_323
    have c_324 := b_324
    have c_325 := b_325
    obtain ⟨f_1, ef_1⟩ : ∃ z, z = va_up (va_up f 302 (.inr (7, mO ad th cap cl fs wk td rw sh 32))) 319 (ai (ca 1) 320 (cpB bf (prevB rdg i) 32)) := ⟨_, rfl⟩
    have hw : xw D vwCl N ad B s.heap f_1 H locs := by rw [ef_1]; exact hw
    have c_302 : f_1 302 = .inr (7, mO ad th cap cl fs wk td rw sh 32) := by rw [ef_1, va_up_ne _ _ (by decide), va_up_self]
    have c_319 : f_1 319 = ai (ca 1) 320 (cpB bf (prevB rdg i) 32) := by rw [ef_1, va_up_self]
    refine lv_aload_n hx hb dX6_chained_48 rfl (lv_at hl 0 rfl) ?_
    refine lv_aload_n hx hb dX6_chained_49 rfl (lv_at hl 0 rfl) ?_
    refine x_get (ci := 7) (C := RX6) (T := TX6) (n := 32) (ref := RX6) hx hb hts hin_7 hown hK hw 302 (by omega) c_302 rfl 18 (by decide) hf_49 (fun _ h => h) rfl dX6_chained_50 ?_
    refine lv_iload_n hx hb dX6_chained_53 rfl (lv_at hl 1 rfl) ?_
    have c_314 : f_1 314 = ai (ca 0) 200 rk := by rw [ef_1, va_up_ne _ _ (by decide), va_up_ne _ _ (by decide)]; exact c_314
    refine x_iald (j := i) hx hb hK hw 314 0 (by omega) c_314 rfl rfl (by omega) (by decide) dX6_chained_54 ?_
    refine lv_topi (fun x_2 ex_2 => ?_)
    refine x_Vv (q := 302) (As := [.int x_2]) (rest := []) ⟨hx, hb, hml, hown, hts⟩ (k_X6_number l D ca N ad B tR tK f_1 dd th cap cl fs wk td rw sh 32 (cpB bf (prevB rdg i) 32) x_2 c_302 c_319  (by omega) (by omega)) (cwV 1 hts gX6_chained_X6_number rfl rfl rfl (by decide +kernel) ⟨Nat.le_of_ble_eq_true rfl, Nat.le_of_ble_eq_true rfl⟩) hK hE hB hw (by omega) c_302 rfl rfl rfl rfl hl.1 (Nat.le_of_ble_eq_true rfl) ⟨Nat.zero_le _, Nat.zero_le _⟩ dX6_chained_55 (fun f_3 H locs hp hw => ?_)
    have eu := hp
    have ef_3 : f_3 = va_up (va_up f_1 302 (.inr (7, mO ad th cap cl fs wk td rw sh (32 + 4)))) 319 (ai (ca 1) 320 (nbr (cpB bf (prevB rdg i) 32) 32 x_2)) := eu
    have c_302 : f_3 302 = .inr (7, mO ad th cap cl fs wk td rw sh (32 + 4)) := by rw [ef_3, va_up_ne _ _ (by decide), va_up_self]
    have c_319 : f_3 319 = ai (ca 1) 320 (nbr (cpB bf (prevB rdg i) 32) 32 x_2) := by rw [ef_3, va_up_self]
    refine lv_aload_n hx hb dX6_chained_58 rfl (lv_at hl 0 rfl) ?_
    refine lv_aload_n hx hb dX6_chained_59 rfl (lv_at hl 0 rfl) ?_
    refine x_get (ci := 7) (C := RX6) (T := TX6) (n := 32) (ref := RX6) hx hb hts hin_7 hown hK hw 302 (by omega) c_302 rfl 19 (by decide) hf_52 (fun _ h => h) rfl dX6_chained_60 ?_
    refine lv_iload_n hx hb dX6_chained_63 rfl (lv_at hl 1 rfl) ?_
    have c_315 : f_3 315 = ai (ca 0) 200 rf := by rw [ef_3, va_up_ne _ _ (by decide), va_up_ne _ _ (by decide), ef_1, va_up_ne _ _ (by decide), va_up_ne _ _ (by decide)]; exact c_315
    refine x_iald (j := i) hx hb hK hw 315 0 (by omega) c_315 rfl rfl (by omega) (by decide) dX6_chained_64 ?_
    refine lv_topi (fun x_5 ex_5 => ?_)
    refine x_Vv (q := 302) (As := [.int x_5]) (rest := []) ⟨hx, hb, hml, hown, hts⟩ (k_X6_number l D ca N ad B tR tK f_3 dd th cap cl fs wk td rw sh (32 + 4) (nbr (cpB bf (prevB rdg i) 32) 32 x_2) x_5 c_302 c_319  (by omega) (by omega)) (cwV 1 hts gX6_chained_X6_number rfl rfl rfl (by decide +kernel) ⟨Nat.le_of_ble_eq_true rfl, Nat.le_of_ble_eq_true rfl⟩) hK hE hB hw (by omega) c_302 rfl rfl rfl rfl hl.1 (Nat.le_of_ble_eq_true rfl) ⟨Nat.zero_le _, Nat.zero_le _⟩ dX6_chained_65 (fun f_6 H locs hp hw => ?_)
    have eu := hp
    have ef_6 : f_6 = va_up (va_up f_3 302 (.inr (7, mO ad th cap cl fs wk td rw sh ((32 + 4) + 4)))) 319 (ai (ca 1) 320 (nbr (nbr (cpB bf (prevB rdg i) 32) 32 x_2) (32 + 4) x_5)) := eu
    have c_302 : f_6 302 = .inr (7, mO ad th cap cl fs wk td rw sh ((32 + 4) + 4)) := by rw [ef_6, va_up_ne _ _ (by decide), va_up_self]
    have c_319 : f_6 319 = ai (ca 1) 320 (nbr (nbr (cpB bf (prevB rdg i) 32) 32 x_2) (32 + 4) x_5) := by rw [ef_6, va_up_self]
    refine lv_aload_n hx hb dX6_chained_68 rfl (lv_at hl 0 rfl) ?_
    refine lv_aload_n hx hb dX6_chained_69 rfl (lv_at hl 0 rfl) ?_
    refine x_get (ci := 7) (C := RX6) (T := TX6) (n := 32) (ref := RX6) hx hb hts hin_7 hown hK hw 302 (by omega) c_302 rfl 20 (by decide) hf_55 (fun _ h => h) rfl dX6_chained_70 ?_
    refine lv_iload_n hx hb dX6_chained_73 rfl (lv_at hl 1 rfl) ?_
    have c_316 : f_6 316 = ai (ca 0) 200 rdy := by rw [ef_6, va_up_ne _ _ (by decide), va_up_ne _ _ (by decide), ef_3, va_up_ne _ _ (by decide), va_up_ne _ _ (by decide), ef_1, va_up_ne _ _ (by decide), va_up_ne _ _ (by decide)]; exact c_316
    refine x_iald (j := i) hx hb hK hw 316 0 (by omega) c_316 rfl rfl (by omega) (by decide) dX6_chained_74 ?_
    refine lv_topi (fun x_8 ex_8 => ?_)
    refine x_Vv (q := 302) (As := [.int x_8]) (rest := []) ⟨hx, hb, hml, hown, hts⟩ (k_X6_number l D ca N ad B tR tK f_6 dd th cap cl fs wk td rw sh ((32 + 4) + 4) (nbr (nbr (cpB bf (prevB rdg i) 32) 32 x_2) (32 + 4) x_5) x_8 c_302 c_319  (by omega) (by omega)) (cwV 1 hts gX6_chained_X6_number rfl rfl rfl (by decide +kernel) ⟨Nat.le_of_ble_eq_true rfl, Nat.le_of_ble_eq_true rfl⟩) hK hE hB hw (by omega) c_302 rfl rfl rfl rfl hl.1 (Nat.le_of_ble_eq_true rfl) ⟨Nat.zero_le _, Nat.zero_le _⟩ dX6_chained_75 (fun f_9 H locs hp hw => ?_)
    have eu := hp
    have ef_9 : f_9 = va_up (va_up f_6 302 (.inr (7, mO ad th cap cl fs wk td rw sh (((32 + 4) + 4) + 4)))) 319 (ai (ca 1) 320 (nbr (nbr (nbr (cpB bf (prevB rdg i) 32) 32 x_2) (32 + 4) x_5) ((32 + 4) + 4) x_8)) := eu
    have c_302 : f_9 302 = .inr (7, mO ad th cap cl fs wk td rw sh (((32 + 4) + 4) + 4)) := by rw [ef_9, va_up_ne _ _ (by decide), va_up_self]
    have c_319 : f_9 319 = ai (ca 1) 320 (nbr (nbr (nbr (cpB bf (prevB rdg i) 32) 32 x_2) (32 + 4) x_5) ((32 + 4) + 4) x_8) := by rw [ef_9, va_up_self]
    have c_302 : f_9 302 = .inr (7, mO ad th cap cl fs wk td rw sh 44) := c_302
    have c_319 : f_9 319 = ai (ca 1) 320 (chB bf rdg i (rk i) (rf i) (rdy i)) := by rw [c_319]; simp only [ex_8, ex_5, ex_2]; rfl
    refine lv_aload_n hx hb dX6_chained_78 rfl (lv_at hl 0 rfl) ?_
    have c_320 : f_9 320 = ai (ca 1) 36 md := by rw [ef_9, va_up_ne _ _ (by decide), va_up_ne _ _ (by decide), ef_6, va_up_ne _ _ (by decide), va_up_ne _ _ (by decide), ef_3, va_up_ne _ _ (by decide), va_up_ne _ _ (by decide), ef_1, va_up_ne _ _ (by decide), va_up_ne _ _ (by decide)]; exact c_320
    have c_321 : f_9 321 = ai (ca 0) 64 ww := by rw [ef_9, va_up_ne _ _ (by decide), va_up_ne _ _ (by decide), ef_6, va_up_ne _ _ (by decide), va_up_ne _ _ (by decide), ef_3, va_up_ne _ _ (by decide), va_up_ne _ _ (by decide), ef_1, va_up_ne _ _ (by decide), va_up_ne _ _ (by decide)]; exact c_321
    have c_322 : f_9 322 = ai (ca 0) 8 hh := by rw [ef_9, va_up_ne _ _ (by decide), va_up_ne _ _ (by decide), ef_6, va_up_ne _ _ (by decide), va_up_ne _ _ (by decide), ef_3, va_up_ne _ _ (by decide), va_up_ne _ _ (by decide), ef_1, va_up_ne _ _ (by decide), va_up_ne _ _ (by decide)]; exact c_322
    have c_323 : f_9 323 = ai (ca 0) 8 vv := by rw [ef_9, va_up_ne _ _ (by decide), va_up_ne _ _ (by decide), ef_6, va_up_ne _ _ (by decide), va_up_ne _ _ (by decide), ef_3, va_up_ne _ _ (by decide), va_up_ne _ _ (by decide), ef_1, va_up_ne _ _ (by decide), va_up_ne _ _ (by decide)]; exact c_323
    have c_324 : f_9 324 = ai (ca 0) 8 shR := by rw [ef_9, va_up_ne _ _ (by decide), va_up_ne _ _ (by decide), ef_6, va_up_ne _ _ (by decide), va_up_ne _ _ (by decide), ef_3, va_up_ne _ _ (by decide), va_up_ne _ _ (by decide), ef_1, va_up_ne _ _ (by decide), va_up_ne _ _ (by decide)]; exact c_324
    have c_325 : f_9 325 = ai (ca 0) 64 shK := by rw [ef_9, va_up_ne _ _ (by decide), va_up_ne _ _ (by decide), ef_6, va_up_ne _ _ (by decide), va_up_ne _ _ (by decide), ef_3, va_up_ne _ _ (by decide), va_up_ne _ _ (by decide), ef_1, va_up_ne _ _ (by decide), va_up_ne _ _ (by decide)]; exact c_325
    refine x_Vv (q := 302) (As := []) (rest := []) ⟨hx, hb, hml, hown, hts⟩ (k_X6_long1 l D ca N ad B tR tK f_9 dd th cap cl fs wk td rw sh 44 (chB bf rdg i (rk i) (rf i) (rdy i)) md ww hh vv c_302 c_319 c_320 c_321 c_322 c_323 c_324 c_325  (by omega) (by omega)) (cwV 0 hts gX6_chained_X6_long1 rfl rfl rfl (by decide +kernel) ⟨Nat.le_of_ble_eq_true rfl, Nat.le_of_ble_eq_true rfl⟩) hK hE hB hw (by omega) c_302 rfl rfl rfl rfl hl.1 (Nat.le_of_ble_eq_true rfl) ⟨Nat.zero_le _, Nat.zero_le _⟩ dX6_chained_79 (fun f_11 H locs hp hw => ?_)
    obtain ⟨b1_13, w1_14, v1_15, h1_16, hq_17, eu⟩ := hp
    have ef_11 : f_11 = va_up (va_up (va_up (va_up (va_up f_9 319 (ai (ca 1) 320 b1_13)) 321 (ai (ca 0) 64 w1_14)) 323 (ai (ca 0) 8 v1_15)) 322 (ai (ca 0) 8 h1_16)) 320 (ai (ca 1) 36 (mkf md (sha 44 (fun i7 => (chB bf rdg i (rk i) (rf i) (rdy i)) i7 &&& nI 255)) 32)) := eu
    have c_319 : f_11 319 = ai (ca 1) 320 b1_13 := by rw [ef_11, va_up_ne _ _ (by decide), va_up_ne _ _ (by decide), va_up_ne _ _ (by decide), va_up_ne _ _ (by decide), va_up_self]
    have c_321 : f_11 321 = ai (ca 0) 64 w1_14 := by rw [ef_11, va_up_ne _ _ (by decide), va_up_ne _ _ (by decide), va_up_ne _ _ (by decide), va_up_self]
    have c_323 : f_11 323 = ai (ca 0) 8 v1_15 := by rw [ef_11, va_up_ne _ _ (by decide), va_up_ne _ _ (by decide), va_up_self]
    have c_322 : f_11 322 = ai (ca 0) 8 h1_16 := by rw [ef_11, va_up_ne _ _ (by decide), va_up_self]
    have c_320 : f_11 320 = ai (ca 1) 36 (mkf md (sha 44 (fun i7 => (chB bf rdg i (rk i) (rf i) (rdy i)) i7 &&& nI 255)) 32) := by rw [ef_11, va_up_self]
    exact x_vret hx hb hr hlocks hw ⟨b1_13, w1_14, v1_15, h1_16, (by rw [← rowS_of bf]; simp only [ef_11, ef_9, ex_8, ef_6, ex_5, ef_3, ex_2, ef_1, up_ch])⟩ dX6_chained_82
  have P_8 : ∀ (n_8 : Nat) (k : Nat) (H : Heap) (locs : List Loc) (ls : Array Slot), 32 + 1 ≤ k + n_8 → (k ≤ 32) → xw D vwCl N ad B s.heap (va_up (va_up f 302 (.inr (7, mO ad th cap cl fs wk td rw sh 32))) 319 (ai (ca 1) 320 (cpB bf (prevB rdg i) k))) H locs → lv_has ls 3 [(0, .ref (ad 302)), (1, .int (nI i)), (2, .int (nI k))] → W p l e rmX6_chained s m ([.ref (ad 302), .int (nI i)] : List Value).toArray below meth c H locs 0 0 (MQ below (xQv (fun u => ∃ b1 : Nat → Int32, ∃ w1 : Nat → Int32, ∃ v1 : Nat → Int32, ∃ h1 : Nat → Int32, u = va_up (va_up (va_up (va_up (va_up (va_up f 302 (.inr (7, mO ad th cap cl fs wk td rw sh 44))) 319 (ai (ca 1) 320 b1)) 321 (ai (ca 0) 64 w1)) 323 (ai (ca 0) 8 v1)) 322 (ai (ca 0) 8 h1)) 320 (ai (ca 1) 36 (mkf md (rowS rdg i (rk i) (rf i) (rdy i)) 32))) D N ad B) ([.ref (ad 302), .int (nI i)] : List Value).toArray s 0 0 (xA B)) (F0 m 8 ls []) := by
    intro n_8
    induction n_8 with
    | zero =>
      intro k H locs ls hm_8 hk hw hl
      exact absurd hm_8 (by omega)
    | succ n_8 ih_8 =>
      intro k H locs ls hm_8 hk hw hl
      have c_302 := b_302
      have c_314 := b_314
      have c_315 := b_315
      have c_316 := b_316
      have c_317 := b_317
      have c_319 := b_319
      have c_320 := b_320
      have c_321 := b_321
      have c_322 := b_322
      have c_323 := b_323
      have c_324 := b_324
      have c_325 := b_325
      obtain ⟨f_18, ef_18⟩ : ∃ z, z = va_up (va_up f 302 (.inr (7, mO ad th cap cl fs wk td rw sh 32))) 319 (ai (ca 1) 320 (cpB bf (prevB rdg i) k)) := ⟨_, rfl⟩
      have hw : xw D vwCl N ad B s.heap f_18 H locs := by rw [ef_18]; exact hw
      have c_302 : f_18 302 = .inr (7, mO ad th cap cl fs wk td rw sh 32) := by rw [ef_18, va_up_ne _ _ (by decide), va_up_self]
      have c_319 : f_18 319 = ai (ca 1) 320 (cpB bf (prevB rdg i) k) := by rw [ef_18, va_up_self]
      refine lv_iload_n hx hb dX6_chained_8 rfl (lv_at hl 2 rfl) ?_
      refine lv_bipush (v := nI 32) hx hb dX6_chained_9 (by decide) ?_
      refine n_icge (tgt := 48) hx hb dX6_chained_11 (by decide) (by omega) (by omega) (fun c_11 => ?_) (fun c_11 => ?_)
      · have hw : xw D vwCl N ad B s.heap (va_up (va_up f 302 (.inr (7, mO ad th cap cl fs wk td rw sh 32))) 319 (ai (ca 1) 320 (cpB bf (prevB rdg i) 32))) H locs := by
          have ez : f_18 = va_up (va_up f 302 (.inr (7, mO ad th cap cl fs wk td rw sh 32))) 319 (ai (ca 1) 320 (cpB bf (prevB rdg i) 32)) := by have ek : k = 32 := (by omega); subst ek; simp only [ef_18]
          rw [← ez]; exact hw
        exact P_48  _ _ _  hw (lv_sub hl [0, 1] rfl)
      · refine lv_aload_n hx hb dX6_chained_14 rfl (lv_at hl 0 rfl) ?_
        refine x_get (ci := 7) (C := RX6) (T := TX6) (n := 32) (ref := RX6) hx hb hts hin_7 hown hK hw 302 (by omega) c_302 rfl 25 (by decide) hf_64 (fun _ h => h) rfl dX6_chained_15 ?_
        refine lv_iload_n hx hb dX6_chained_18 rfl (lv_at hl 2 rfl) ?_
        refine lv_iload_n hx hb dX6_chained_19 rfl (lv_at hl 1 rfl) ?_
        refine lv_if_ne (tgt := 27) hx hb dX6_chained_20 (by decide) (fun c_20 => ?_) (fun c_20 => ?_)
        · have hi0 : i ≠ 0 := fun q => c_20 (by rw [q]; rfl)
          refine lv_aload_n hx hb dX6_chained_27 rfl (lv_at hl 0 rfl) ?_
          refine x_get (ci := 7) (C := RX6) (T := TX6) (n := 32) (ref := RX6) hx hb hts hin_7 hown hK hw 302 (by omega) c_302 rfl 21 (by decide) hf_58 (fun _ h => h) rfl dX6_chained_28 ?_
          refine lv_bipush (v := nI 32) hx hb dX6_chained_31 (by decide) ?_
          refine lv_iload_n hx hb dX6_chained_33 rfl (lv_at hl 1 rfl) ?_
          refine n_imul hx hb dX6_chained_34 ?_
          refine lv_bipush (v := nI 32) hx hb dX6_chained_35 (by decide) ?_
          refine n_isub hx hb dX6_chained_37 (by omega) ?_
          refine lv_iload_n hx hb dX6_chained_38 rfl (lv_at hl 2 rfl) ?_
          refine n_iadd hx hb dX6_chained_39 ?_
          have c_317 : f_18 317 = ai (ca 1) 6400 rdg := by rw [ef_18, va_up_ne _ _ (by decide), va_up_ne _ _ (by decide)]; exact c_317
          refine x_bald (j := ((32 * i) - 32) + k) hx hb hK hw 317 1 (by omega) c_317 rfl rfl (by omega) (by decide) dX6_chained_40 ?_
          refine x_bast (j := k) (y := (prevB rdg i k).toInt8.toInt32) hx hb hK dd hw 319 1 (by omega) c_319 rfl rfl (by omega) (by decide) (by first | rw [show prevB rdg i k = nI 0 from if_pos hi0] | rw [show prevB rdg i k = rdg (32 * i - 32 + k) from if_neg hi0]) dX6_chained_41 (fun H locs hw => ?_)
          obtain ⟨f_19, ef_19⟩ : ∃ z, z = va_up f_18 319 (ai (ca 1) 320 (upd (cpB bf (prevB rdg i) k) k ((prevB rdg i k).toInt8.toInt32))) := ⟨_, rfl⟩
          have hw : xw D vwCl N ad B s.heap f_19 H locs := by rw [ef_19]; exact hw
          have c_319 : f_19 319 = ai (ca 1) 320 (upd (cpB bf (prevB rdg i) k) k ((prevB rdg i k).toInt8.toInt32)) := va_up_of ef_19
          refine lv_iinc (v := nI (k + 1)) (lv' := [(2, .int (nI (k + 1))), (0, .ref (ad 302)), (1, .int (nI i))]) hx hb dX6_chained_42 hl (k := 2) rfl (by rw [show Int32.ofInt 1 = nI 1 from rfl]; exact nI_add _ _) (by decide) rfl (fun ls hl => ?_)
          refine lv_goto (tgt := 8) hx hb dX6_chained_45 (by decide) ?_
          have hw : xw D vwCl N ad B s.heap (va_up (va_up f 302 (.inr (7, mO ad th cap cl fs wk td rw sh 32))) 319 (ai (ca 1) 320 (cpB bf (prevB rdg i) (k + 1)))) H locs := by
            have ez : f_19 = va_up (va_up f 302 (.inr (7, mO ad th cap cl fs wk td rw sh 32))) 319 (ai (ca 1) 320 (cpB bf (prevB rdg i) (k + 1))) := by simp only [ef_19, ef_18, up_aa, cpB_s]
            rw [← ez]; exact hw
          exact ih_8 (k + 1) _ _ _ (by omega) (by omega) hw (lv_sub hl [1, 2, 0] rfl)
        · have hi0 : i = 0 := (nI_eq (by omega) (by decide)).mp c_20
          refine lv_iconst (v := nI 0) hx hb dX6_chained_23 (by decide) ?_
          refine lv_goto (tgt := 41) hx hb dX6_chained_24 (by decide) ?_
          refine x_bast (j := k) (y := (prevB rdg i k).toInt8.toInt32) hx hb hK dd hw 319 1 (by omega) c_319 rfl rfl (by omega) (by decide) (by first | rw [show prevB rdg i k = nI 0 from if_pos hi0] | rw [show prevB rdg i k = rdg (32 * i - 32 + k) from if_neg hi0]) dX6_chained_41 (fun H locs hw => ?_)
          obtain ⟨f_20, ef_20⟩ : ∃ z, z = va_up f_18 319 (ai (ca 1) 320 (upd (cpB bf (prevB rdg i) k) k ((prevB rdg i k).toInt8.toInt32))) := ⟨_, rfl⟩
          have hw : xw D vwCl N ad B s.heap f_20 H locs := by rw [ef_20]; exact hw
          have c_319 : f_20 319 = ai (ca 1) 320 (upd (cpB bf (prevB rdg i) k) k ((prevB rdg i k).toInt8.toInt32)) := va_up_of ef_20
          refine lv_iinc (v := nI (k + 1)) (lv' := [(2, .int (nI (k + 1))), (0, .ref (ad 302)), (1, .int (nI i))]) hx hb dX6_chained_42 hl (k := 2) rfl (by rw [show Int32.ofInt 1 = nI 1 from rfl]; exact nI_add _ _) (by decide) rfl (fun ls hl => ?_)
          refine lv_goto (tgt := 8) hx hb dX6_chained_45 (by decide) ?_
          have hw : xw D vwCl N ad B s.heap (va_up (va_up f 302 (.inr (7, mO ad th cap cl fs wk td rw sh 32))) 319 (ai (ca 1) 320 (cpB bf (prevB rdg i) (k + 1)))) H locs := by
            have ez : f_20 = va_up (va_up f 302 (.inr (7, mO ad th cap cl fs wk td rw sh 32))) 319 (ai (ca 1) 320 (cpB bf (prevB rdg i) (k + 1))) := by simp only [ef_20, ef_18, up_aa, cpB_s]
            rw [← ez]; exact hw
          exact ih_8 (k + 1) _ _ _ (by omega) (by omega) hw (lv_sub hl [1, 2, 0] rfl)
  refine lv_aload_n hx hb dX6_chained_0 rfl (lv_at hl 0 rfl) ?_
  refine lv_bipush (v := nI 32) hx hb dX6_chained_1 (by decide) ?_
  refine x_put (ci := 7) (C := RX6) (T := TX6) (n := 32) (ref := RX6) (fs' := mO ad th cap cl fs wk td rw sh 32) hx hb hts hin_7 tyX6 tyX6_ok nmX6 hown hK dd hw 302 (by omega) c_302 rfl 24 (by decide) hf_179 (fun _ h => h) rfl rfl rfl (Nat.le_of_ble_eq_true rfl) rfl dX6_chained_3 (fun H locs hw => ?_)
  obtain ⟨f_21, ef_21⟩ : ∃ z, z = va_up f 302 (.inr (7, mO ad th cap cl fs wk td rw sh 32)) := ⟨_, rfl⟩
  have hw : xw D vwCl N ad B s.heap f_21 H locs := by rw [ef_21]; exact hw
  have c_302 : f_21 302 = .inr (7, mO ad th cap cl fs wk td rw sh 32) := va_up_of ef_21
  refine lv_iconst (v := nI 0) hx hb dX6_chained_6 (by decide) ?_
  refine lv_istore_n (lv' := [(2, .int (nI 0)), (0, .ref (ad 302)), (1, .int (nI i))]) hx hb dX6_chained_7 rfl hl (by decide) rfl (fun ls hl => ?_)
  have hw : xw D vwCl N ad B s.heap (va_up (va_up f 302 (.inr (7, mO ad th cap cl fs wk td rw sh 32))) 319 (ai (ca 1) 320 (cpB bf (prevB rdg i) 0))) H locs := by
    have ez : f_21 = va_up (va_up f 302 (.inr (7, mO ad th cap cl fs wk td rw sh 32))) 319 (ai (ca 1) 320 (cpB bf (prevB rdg i) 0)) := by rw [ef_21, cpB_0, ← b_319, ← va_up_ne f (.inr (7, mO ad th cap cl fs wk td rw sh 32)) (show 319 ≠ 302 by decide), up_same]
    rw [← ez]; exact hw
  exact P_8 33 0 _ _ _ (by omega) (by omega) hw (lv_sub hl [1, 2, 0] rfl)

abbrev rmX6_enter : Room := { frames := 5, cells := 0, slots := 0, locals := 114 }

theorem up_noop {f : Nat → va_E} {a : Nat} {x : va_E} (h : f a = x) : va_up f a x = f := by rw [← h, up_same]
theorem up_ent (f : Nat → va_E) (o b x y z m r o' : va_E) : va_up (va_up (va_up (va_up (va_up (va_up (va_up (va_up f 302 o) 319 b) 321 x) 323 y) 322 z) 320 m) 317 r) 302 o' = va_up (va_up (va_up (va_up (va_up (va_up (va_up f 302 o') 319 b) 321 x) 323 y) 322 z) 320 m) 317 r := by
  funext j
  simp only [va_up]
  by_cases h : j = 302
  · simp [h]
  · simp [h]

set_option maxHeartbeats 4000000 in
set_option maxRecDepth 100000 in
theorem k_X6_enter_in (l : Launch) (D : va_G) (ca : Nat → ClassId) (N : Nat) (ad : Nat → Nat) (B tR tK : Nat) (f : Nat → va_E) (dd : xD N ad B) (th : Nat) (cap : Nat) (cl : Nat) (fs : Nat) (wk : Int32) (td : Nat) (rw : Nat) (sh : Nat) (fi : Nat) (rk : Nat → Int32) (rf : Nat → Int32) (rdy : Nat → Int32) (rdg : Nat → Int32) (bf : Nat → Int32) (md : Nat → Int32) (ww : Nat → Int32) (hh : Nat → Int32) (vv : Nat → Int32) (kd : Int32) (fl : Int32) (dy : Int32) (c_302 : f 302 = .inr (7, mO ad th cap cl fs wk td rw sh fi)) (c_314 : f 314 = ai (ca 0) 200 rk) (c_315 : f 315 = ai (ca 0) 200 rf) (c_316 : f 316 = ai (ca 0) 200 rdy) (c_317 : f 317 = ai (ca 1) 6400 rdg) (c_319 : f 319 = ai (ca 1) 320 bf) (c_320 : f 320 = ai (ca 1) 36 md) (c_321 : f 321 = ai (ca 0) 64 ww) (c_322 : f 322 = ai (ca 0) 8 hh) (c_323 : f 323 = ai (ca 0) 8 vv) (c_324 : f 324 = ai (ca 0) 8 shR) (c_325 : f 325 = ai (ca 0) 64 shK)  (hN : 326 ≤ N) (hr9 : rw < 200) : xMv l yX6_enter wsX6_enter rmX6_enter [.ref (ad 302), .int kd, .int fl, .int dy] D ca N ad B tR tK f (fun u => ∃ b1 : Nat → Int32, ∃ w1 : Nat → Int32, ∃ v1 : Nat → Int32, ∃ h1 : Nat → Int32, u = va_up (va_up (va_up (va_up (va_up (va_up (va_up (va_up (va_up (va_up f 314 (ai (ca 0) 200 (upd rk rw kd))) 315 (ai (ca 0) 200 (upd rf rw fl))) 316 (ai (ca 0) 200 (upd rdy rw dy))) 302 (.inr (7, mO ad th cap cl fs wk td (rw + 1) sh 44))) 319 (ai (ca 1) 320 b1)) 321 (ai (ca 0) 64 w1)) 323 (ai (ca 0) 8 v1)) 322 (ai (ca 0) 8 h1)) 320 (ai (ca 1) 36 (mkf md (rowS rdg rw kd fl dy) 32))) 317 (ai (ca 1) 6400 (rowB rdg (rowS rdg rw kd fl dy) rw))) := by
  refine x_open (cc := cX6_enter) (maxL := 5) (ret := none) (by decide) rfl (Nat.le_of_ble_eq_true rfl) ?_
  intro p e s m below meth c ls hx hb hml hown hts hr hlocks hnm hB hK hE hw hl
  have hown : s.vm.findClass RX6 = some m.cls := hown
  have hl : lv_has ls 5 [(0, .ref (ad 302)), (1, .int kd), (2, .int fl), (3, .int dy)] := hl
  have hin_7 : ∀ w ∈ u_ws RX6 TX6 32, w ∈ wsX6_enter := by decide +kernel
  have hf_203 := hts (.fieldLink RX6 203 "FixityRowsModel" "rows" "I") (by decide +kernel)
  have hf_58 := hts (.fieldLink RX6 58 "FixityRowsModel" "rowDigest" "[B") (by decide +kernel)
  have hf_67 := hts (.fieldLink RX6 67 "FixityRowsModel" "made" "[B") (by decide +kernel)
  have hf_49 := hts (.fieldLink RX6 49 "FixityRowsModel" "rowWhat" "[I") (by decide +kernel)
  have hf_52 := hts (.fieldLink RX6 52 "FixityRowsModel" "rowFile" "[I") (by decide +kernel)
  have hf_55 := hts (.fieldLink RX6 55 "FixityRowsModel" "rowDay" "[I") (by decide +kernel)
  have b_302 := c_302
  have b_314 := c_314
  have b_315 := c_315
  have b_316 := c_316
  have b_317 := c_317
  have b_319 := c_319
  have b_320 := c_320
  have b_321 := c_321
  have b_322 := c_322
  have b_323 := c_323
  have b_324 := c_324
  have b_325 := c_325
  have P_52 : ∀ (n_52 : Nat) (b1 : Nat → Int32) (w1 : Nat → Int32) (v1 : Nat → Int32) (h1 : Nat → Int32) (k : Nat) (H : Heap) (locs : List Loc) (ls : Array Slot), 32 + 1 ≤ k + n_52 → (k ≤ 32) → xw D vwCl N ad B s.heap (va_up (va_up (va_up (va_up (va_up (va_up (va_up (va_up (va_up (va_up f 314 (ai (ca 0) 200 (upd rk rw kd))) 315 (ai (ca 0) 200 (upd rf rw fl))) 316 (ai (ca 0) 200 (upd rdy rw dy))) 302 (.inr (7, mO ad th cap cl fs wk td rw sh 44))) 319 (ai (ca 1) 320 b1)) 321 (ai (ca 0) 64 w1)) 323 (ai (ca 0) 8 v1)) 322 (ai (ca 0) 8 h1)) 320 (ai (ca 1) 36 (mkf md (rowS rdg rw kd fl dy) 32))) 317 (ai (ca 1) 6400 (cpR rdg (mkf md (rowS rdg rw kd fl dy) 32) rw k))) H locs → lv_has ls 5 [(0, .ref (ad 302)), (4, .int (nI k))] → W p l e rmX6_enter s m ([.ref (ad 302), .int kd, .int fl, .int dy] : List Value).toArray below meth c H locs 0 0 (MQ below (xQv (fun u => ∃ b1 : Nat → Int32, ∃ w1 : Nat → Int32, ∃ v1 : Nat → Int32, ∃ h1 : Nat → Int32, u = va_up (va_up (va_up (va_up (va_up (va_up (va_up (va_up (va_up (va_up f 314 (ai (ca 0) 200 (upd rk rw kd))) 315 (ai (ca 0) 200 (upd rf rw fl))) 316 (ai (ca 0) 200 (upd rdy rw dy))) 302 (.inr (7, mO ad th cap cl fs wk td (rw + 1) sh 44))) 319 (ai (ca 1) 320 b1)) 321 (ai (ca 0) 64 w1)) 323 (ai (ca 0) 8 v1)) 322 (ai (ca 0) 8 h1)) 320 (ai (ca 1) 36 (mkf md (rowS rdg rw kd fl dy) 32))) 317 (ai (ca 1) 6400 (rowB rdg (rowS rdg rw kd fl dy) rw))) D N ad B) ([.ref (ad 302), .int kd, .int fl, .int dy] : List Value).toArray s 0 0 (xA B)) (F0 m 52 ls []) := by
    intro n_52
    induction n_52 with
    | zero =>
      intro b1 w1 v1 h1 k H locs ls hm_52 hk hw hl
      exact absurd hm_52 (by omega)
    | succ n_52 ih_52 =>
      intro b1 w1 v1 h1 k H locs ls hm_52 hk hw hl
      have c_302 := b_302
      have c_314 := b_314
      have c_315 := b_315
      have c_316 := b_316
      have c_317 := b_317
      have c_319 := b_319
      have c_320 := b_320
      have c_321 := b_321
      have c_322 := b_322
      have c_323 := b_323
      have c_324 := b_324
      have c_325 := b_325
      obtain ⟨f_1, ef_1⟩ : ∃ z, z = va_up (va_up (va_up (va_up (va_up (va_up (va_up (va_up (va_up (va_up f 314 (ai (ca 0) 200 (upd rk rw kd))) 315 (ai (ca 0) 200 (upd rf rw fl))) 316 (ai (ca 0) 200 (upd rdy rw dy))) 302 (.inr (7, mO ad th cap cl fs wk td rw sh 44))) 319 (ai (ca 1) 320 b1)) 321 (ai (ca 0) 64 w1)) 323 (ai (ca 0) 8 v1)) 322 (ai (ca 0) 8 h1)) 320 (ai (ca 1) 36 (mkf md (rowS rdg rw kd fl dy) 32))) 317 (ai (ca 1) 6400 (cpR rdg (mkf md (rowS rdg rw kd fl dy) 32) rw k)) := ⟨_, rfl⟩
      have hw : xw D vwCl N ad B s.heap f_1 H locs := by rw [ef_1]; exact hw
      have c_314 : f_1 314 = ai (ca 0) 200 (upd rk rw kd) := by rw [ef_1, va_up_ne _ _ (by decide), va_up_ne _ _ (by decide), va_up_ne _ _ (by decide), va_up_ne _ _ (by decide), va_up_ne _ _ (by decide), va_up_ne _ _ (by decide), va_up_ne _ _ (by decide), va_up_ne _ _ (by decide), va_up_ne _ _ (by decide), va_up_self]
      have c_315 : f_1 315 = ai (ca 0) 200 (upd rf rw fl) := by rw [ef_1, va_up_ne _ _ (by decide), va_up_ne _ _ (by decide), va_up_ne _ _ (by decide), va_up_ne _ _ (by decide), va_up_ne _ _ (by decide), va_up_ne _ _ (by decide), va_up_ne _ _ (by decide), va_up_ne _ _ (by decide), va_up_self]
      have c_316 : f_1 316 = ai (ca 0) 200 (upd rdy rw dy) := by rw [ef_1, va_up_ne _ _ (by decide), va_up_ne _ _ (by decide), va_up_ne _ _ (by decide), va_up_ne _ _ (by decide), va_up_ne _ _ (by decide), va_up_ne _ _ (by decide), va_up_ne _ _ (by decide), va_up_self]
      have c_302 : f_1 302 = .inr (7, mO ad th cap cl fs wk td rw sh 44) := by rw [ef_1, va_up_ne _ _ (by decide), va_up_ne _ _ (by decide), va_up_ne _ _ (by decide), va_up_ne _ _ (by decide), va_up_ne _ _ (by decide), va_up_ne _ _ (by decide), va_up_self]
      have c_319 : f_1 319 = ai (ca 1) 320 b1 := by rw [ef_1, va_up_ne _ _ (by decide), va_up_ne _ _ (by decide), va_up_ne _ _ (by decide), va_up_ne _ _ (by decide), va_up_ne _ _ (by decide), va_up_self]
      have c_321 : f_1 321 = ai (ca 0) 64 w1 := by rw [ef_1, va_up_ne _ _ (by decide), va_up_ne _ _ (by decide), va_up_ne _ _ (by decide), va_up_ne _ _ (by decide), va_up_self]
      have c_323 : f_1 323 = ai (ca 0) 8 v1 := by rw [ef_1, va_up_ne _ _ (by decide), va_up_ne _ _ (by decide), va_up_ne _ _ (by decide), va_up_self]
      have c_322 : f_1 322 = ai (ca 0) 8 h1 := by rw [ef_1, va_up_ne _ _ (by decide), va_up_ne _ _ (by decide), va_up_self]
      have c_320 : f_1 320 = ai (ca 1) 36 (mkf md (rowS rdg rw kd fl dy) 32) := by rw [ef_1, va_up_ne _ _ (by decide), va_up_self]
      have c_317 : f_1 317 = ai (ca 1) 6400 (cpR rdg (mkf md (rowS rdg rw kd fl dy) 32) rw k) := by rw [ef_1, va_up_self]
      refine lv_iload hx hb dX6_enter_52 (lv_at hl 1 rfl) ?_
      refine lv_bipush (v := nI 32) hx hb dX6_enter_54 (by decide) ?_
      refine n_icge (tgt := 87) hx hb dX6_enter_56 (by decide) (by omega) (by omega) (fun c_56 => ?_) (fun c_56 => ?_)
      · refine lv_aload_n hx hb dX6_enter_87 rfl (lv_at hl 0 rfl) ?_
        refine lv_dup hx hb dX6_enter_88 rfl ?_
        refine x_get (ci := 7) (C := RX6) (T := TX6) (n := 32) (ref := RX6) hx hb hts hin_7 hown hK hw 302 (by omega) c_302 rfl 17 (by decide) hf_203 (fun _ h => h) rfl dX6_enter_89 ?_
        refine lv_iconst (v := nI 1) hx hb dX6_enter_92 (by decide) ?_
        refine n_iadd hx hb dX6_enter_93 ?_
        refine x_put (ci := 7) (C := RX6) (T := TX6) (n := 32) (ref := RX6) (fs' := mO ad th cap cl fs wk td (rw + 1) sh 44) hx hb hts hin_7 tyX6 tyX6_ok nmX6 hown hK dd hw 302 (by omega) c_302 rfl 17 (by decide) hf_203 (fun _ h => h) rfl rfl rfl (Nat.le_of_ble_eq_true rfl) rfl dX6_enter_94 (fun H locs hw => ?_)
        obtain ⟨f_2, ef_2⟩ : ∃ z, z = va_up f_1 302 (.inr (7, mO ad th cap cl fs wk td (rw + 1) sh 44)) := ⟨_, rfl⟩
        have hw : xw D vwCl N ad B s.heap f_2 H locs := by rw [ef_2]; exact hw
        have c_302 : f_2 302 = .inr (7, mO ad th cap cl fs wk td (rw + 1) sh 44) := va_up_of ef_2
        exact x_vret hx hb hr hlocks hw ⟨b1, w1, v1, h1, (by have ek : k = 32 := (by omega); subst ek; rw [← cpR_mkf rdg md]; simp only [ef_2, ef_1, up_ent])⟩ dX6_enter_97
      · refine lv_aload_n hx hb dX6_enter_59 rfl (lv_at hl 0 rfl) ?_
        refine x_get (ci := 7) (C := RX6) (T := TX6) (n := 32) (ref := RX6) hx hb hts hin_7 hown hK hw 302 (by omega) c_302 rfl 21 (by decide) hf_58 (fun _ h => h) rfl dX6_enter_60 ?_
        refine lv_bipush (v := nI 32) hx hb dX6_enter_63 (by decide) ?_
        refine lv_aload_n hx hb dX6_enter_65 rfl (lv_at hl 0 rfl) ?_
        refine x_get (ci := 7) (C := RX6) (T := TX6) (n := 32) (ref := RX6) hx hb hts hin_7 hown hK hw 302 (by omega) c_302 rfl 17 (by decide) hf_203 (fun _ h => h) rfl dX6_enter_66 ?_
        refine n_imul hx hb dX6_enter_69 ?_
        refine lv_iload hx hb dX6_enter_70 (lv_at hl 1 rfl) ?_
        refine n_iadd hx hb dX6_enter_72 ?_
        refine lv_aload_n hx hb dX6_enter_73 rfl (lv_at hl 0 rfl) ?_
        refine x_get (ci := 7) (C := RX6) (T := TX6) (n := 32) (ref := RX6) hx hb hts hin_7 hown hK hw 302 (by omega) c_302 rfl 26 (by decide) hf_67 (fun _ h => h) rfl dX6_enter_74 ?_
        refine lv_iload hx hb dX6_enter_77 (lv_at hl 1 rfl) ?_
        refine x_bald (j := k) hx hb hK hw 320 1 (by omega) c_320 rfl rfl (by omega) (by decide) dX6_enter_79 ?_
        refine x_bast (j := (32 * rw) + k) (y := ((mkf md (rowS rdg rw kd fl dy) 32) k).toInt8.toInt32) hx hb hK dd hw 317 1 (by omega) c_317 rfl rfl (by omega) (by decide) rfl dX6_enter_80 (fun H locs hw => ?_)
        obtain ⟨f_3, ef_3⟩ : ∃ z, z = va_up f_1 317 (ai (ca 1) 6400 (upd (cpR rdg (mkf md (rowS rdg rw kd fl dy) 32) rw k) ((32 * rw) + k) (((mkf md (rowS rdg rw kd fl dy) 32) k).toInt8.toInt32))) := ⟨_, rfl⟩
        have hw : xw D vwCl N ad B s.heap f_3 H locs := by rw [ef_3]; exact hw
        have c_317 : f_3 317 = ai (ca 1) 6400 (upd (cpR rdg (mkf md (rowS rdg rw kd fl dy) 32) rw k) ((32 * rw) + k) (((mkf md (rowS rdg rw kd fl dy) 32) k).toInt8.toInt32)) := va_up_of ef_3
        refine lv_iinc (v := nI (k + 1)) (lv' := [(4, .int (nI (k + 1))), (0, .ref (ad 302))]) hx hb dX6_enter_81 hl (k := 1) rfl (by rw [show Int32.ofInt 1 = nI 1 from rfl]; exact nI_add _ _) (by decide) rfl (fun ls hl => ?_)
        refine lv_goto (tgt := 52) hx hb dX6_enter_84 (by decide) ?_
        have hw : xw D vwCl N ad B s.heap (va_up (va_up (va_up (va_up (va_up (va_up (va_up (va_up (va_up (va_up f 314 (ai (ca 0) 200 (upd rk rw kd))) 315 (ai (ca 0) 200 (upd rf rw fl))) 316 (ai (ca 0) 200 (upd rdy rw dy))) 302 (.inr (7, mO ad th cap cl fs wk td rw sh 44))) 319 (ai (ca 1) 320 b1)) 321 (ai (ca 0) 64 w1)) 323 (ai (ca 0) 8 v1)) 322 (ai (ca 0) 8 h1)) 320 (ai (ca 1) 36 (mkf md (rowS rdg rw kd fl dy) 32))) 317 (ai (ca 1) 6400 (cpR rdg (mkf md (rowS rdg rw kd fl dy) 32) rw (k + 1)))) H locs := by
          have ez : f_3 = va_up (va_up (va_up (va_up (va_up (va_up (va_up (va_up (va_up (va_up f 314 (ai (ca 0) 200 (upd rk rw kd))) 315 (ai (ca 0) 200 (upd rf rw fl))) 316 (ai (ca 0) 200 (upd rdy rw dy))) 302 (.inr (7, mO ad th cap cl fs wk td rw sh 44))) 319 (ai (ca 1) 320 b1)) 321 (ai (ca 0) 64 w1)) 323 (ai (ca 0) 8 v1)) 322 (ai (ca 0) 8 h1)) 320 (ai (ca 1) 36 (mkf md (rowS rdg rw kd fl dy) 32))) 317 (ai (ca 1) 6400 (cpR rdg (mkf md (rowS rdg rw kd fl dy) 32) rw (k + 1))) := by simp only [ef_3, ef_1, up_aa, cpR_s]
          rw [← ez]; exact hw
        exact ih_52 b1 w1 v1 h1 (k + 1) _ _ _ (by omega) (by omega) hw (lv_sub hl [1, 0] rfl)
  refine lv_aload_n hx hb dX6_enter_0 rfl (lv_at hl 0 rfl) ?_
  refine x_get (ci := 7) (C := RX6) (T := TX6) (n := 32) (ref := RX6) hx hb hts hin_7 hown hK hw 302 (by omega) c_302 rfl 17 (by decide) hf_203 (fun _ h => h) rfl dX6_enter_1 ?_
  refine lv_sipush (v := nI 200) hx hb dX6_enter_4 (by decide) ?_
  refine n_icne (tgt := 11) hx hb dX6_enter_7 (by decide) (by omega) (by omega) (fun c_7 => ?_) (fun c_7 => ?_)
  · refine lv_aload_n hx hb dX6_enter_11 rfl (lv_at hl 0 rfl) ?_
    refine x_get (ci := 7) (C := RX6) (T := TX6) (n := 32) (ref := RX6) hx hb hts hin_7 hown hK hw 302 (by omega) c_302 rfl 18 (by decide) hf_49 (fun _ h => h) rfl dX6_enter_12 ?_
    refine lv_aload_n hx hb dX6_enter_15 rfl (lv_at hl 0 rfl) ?_
    refine x_get (ci := 7) (C := RX6) (T := TX6) (n := 32) (ref := RX6) hx hb hts hin_7 hown hK hw 302 (by omega) c_302 rfl 17 (by decide) hf_203 (fun _ h => h) rfl dX6_enter_16 ?_
    refine lv_iload_n hx hb dX6_enter_19 rfl (lv_at hl 1 rfl) ?_
    refine x_iast (j := rw) hx hb hK dd hw 314 0 (by omega) c_314 rfl rfl (by omega) (by decide) dX6_enter_20 (fun H locs hw => ?_)
    obtain ⟨f_4, ef_4⟩ : ∃ z, z = va_up f 314 (ai (ca 0) 200 (upd rk rw kd)) := ⟨_, rfl⟩
    have hw : xw D vwCl N ad B s.heap f_4 H locs := by rw [ef_4]; exact hw
    have c_314 : f_4 314 = ai (ca 0) 200 (upd rk rw kd) := va_up_of ef_4
    refine lv_aload_n hx hb dX6_enter_21 rfl (lv_at hl 0 rfl) ?_
    have c_302 : f_4 302 = .inr (7, mO ad th cap cl fs wk td rw sh fi) := by rw [ef_4, va_up_ne _ _ (by decide)]; exact c_302
    refine x_get (ci := 7) (C := RX6) (T := TX6) (n := 32) (ref := RX6) hx hb hts hin_7 hown hK hw 302 (by omega) c_302 rfl 19 (by decide) hf_52 (fun _ h => h) rfl dX6_enter_22 ?_
    refine lv_aload_n hx hb dX6_enter_25 rfl (lv_at hl 0 rfl) ?_
    refine x_get (ci := 7) (C := RX6) (T := TX6) (n := 32) (ref := RX6) hx hb hts hin_7 hown hK hw 302 (by omega) c_302 rfl 17 (by decide) hf_203 (fun _ h => h) rfl dX6_enter_26 ?_
    refine lv_iload_n hx hb dX6_enter_29 rfl (lv_at hl 2 rfl) ?_
    have c_315 : f_4 315 = ai (ca 0) 200 rf := by rw [ef_4, va_up_ne _ _ (by decide)]; exact c_315
    refine x_iast (j := rw) hx hb hK dd hw 315 0 (by omega) c_315 rfl rfl (by omega) (by decide) dX6_enter_30 (fun H locs hw => ?_)
    obtain ⟨f_5, ef_5⟩ : ∃ z, z = va_up f_4 315 (ai (ca 0) 200 (upd rf rw fl)) := ⟨_, rfl⟩
    have hw : xw D vwCl N ad B s.heap f_5 H locs := by rw [ef_5]; exact hw
    have c_315 : f_5 315 = ai (ca 0) 200 (upd rf rw fl) := va_up_of ef_5
    refine lv_aload_n hx hb dX6_enter_31 rfl (lv_at hl 0 rfl) ?_
    have c_302 : f_5 302 = .inr (7, mO ad th cap cl fs wk td rw sh fi) := by rw [ef_5, va_up_ne _ _ (by decide)]; exact c_302
    refine x_get (ci := 7) (C := RX6) (T := TX6) (n := 32) (ref := RX6) hx hb hts hin_7 hown hK hw 302 (by omega) c_302 rfl 20 (by decide) hf_55 (fun _ h => h) rfl dX6_enter_32 ?_
    refine lv_aload_n hx hb dX6_enter_35 rfl (lv_at hl 0 rfl) ?_
    refine x_get (ci := 7) (C := RX6) (T := TX6) (n := 32) (ref := RX6) hx hb hts hin_7 hown hK hw 302 (by omega) c_302 rfl 17 (by decide) hf_203 (fun _ h => h) rfl dX6_enter_36 ?_
    refine lv_iload_n hx hb dX6_enter_39 rfl (lv_at hl 3 rfl) ?_
    have c_316 : f_5 316 = ai (ca 0) 200 rdy := by rw [ef_5, va_up_ne _ _ (by decide), ef_4, va_up_ne _ _ (by decide)]; exact c_316
    refine x_iast (j := rw) hx hb hK dd hw 316 0 (by omega) c_316 rfl rfl (by omega) (by decide) dX6_enter_40 (fun H locs hw => ?_)
    obtain ⟨f_6, ef_6⟩ : ∃ z, z = va_up f_5 316 (ai (ca 0) 200 (upd rdy rw dy)) := ⟨_, rfl⟩
    have hw : xw D vwCl N ad B s.heap f_6 H locs := by rw [ef_6]; exact hw
    have c_316 : f_6 316 = ai (ca 0) 200 (upd rdy rw dy) := va_up_of ef_6
    refine lv_aload_n hx hb dX6_enter_41 rfl (lv_at hl 0 rfl) ?_
    refine lv_aload_n hx hb dX6_enter_42 rfl (lv_at hl 0 rfl) ?_
    have c_302 : f_6 302 = .inr (7, mO ad th cap cl fs wk td rw sh fi) := by rw [ef_6, va_up_ne _ _ (by decide)]; exact c_302
    refine x_get (ci := 7) (C := RX6) (T := TX6) (n := 32) (ref := RX6) hx hb hts hin_7 hown hK hw 302 (by omega) c_302 rfl 17 (by decide) hf_203 (fun _ h => h) rfl dX6_enter_43 ?_
    have c_314 : f_6 314 = ai (ca 0) 200 (upd rk rw kd) := by rw [ef_6, va_up_ne _ _ (by decide), ef_5, va_up_ne _ _ (by decide)]; exact c_314
    have c_315 : f_6 315 = ai (ca 0) 200 (upd rf rw fl) := by rw [ef_6, va_up_ne _ _ (by decide)]; exact c_315
    have c_317 : f_6 317 = ai (ca 1) 6400 rdg := by rw [ef_6, va_up_ne _ _ (by decide), ef_5, va_up_ne _ _ (by decide), ef_4, va_up_ne _ _ (by decide)]; exact c_317
    have c_319 : f_6 319 = ai (ca 1) 320 bf := by rw [ef_6, va_up_ne _ _ (by decide), ef_5, va_up_ne _ _ (by decide), ef_4, va_up_ne _ _ (by decide)]; exact c_319
    have c_320 : f_6 320 = ai (ca 1) 36 md := by rw [ef_6, va_up_ne _ _ (by decide), ef_5, va_up_ne _ _ (by decide), ef_4, va_up_ne _ _ (by decide)]; exact c_320
    have c_321 : f_6 321 = ai (ca 0) 64 ww := by rw [ef_6, va_up_ne _ _ (by decide), ef_5, va_up_ne _ _ (by decide), ef_4, va_up_ne _ _ (by decide)]; exact c_321
    have c_322 : f_6 322 = ai (ca 0) 8 hh := by rw [ef_6, va_up_ne _ _ (by decide), ef_5, va_up_ne _ _ (by decide), ef_4, va_up_ne _ _ (by decide)]; exact c_322
    have c_323 : f_6 323 = ai (ca 0) 8 vv := by rw [ef_6, va_up_ne _ _ (by decide), ef_5, va_up_ne _ _ (by decide), ef_4, va_up_ne _ _ (by decide)]; exact c_323
    have c_324 : f_6 324 = ai (ca 0) 8 shR := by rw [ef_6, va_up_ne _ _ (by decide), ef_5, va_up_ne _ _ (by decide), ef_4, va_up_ne _ _ (by decide)]; exact c_324
    have c_325 : f_6 325 = ai (ca 0) 64 shK := by rw [ef_6, va_up_ne _ _ (by decide), ef_5, va_up_ne _ _ (by decide), ef_4, va_up_ne _ _ (by decide)]; exact c_325
    refine x_Vv (q := 302) (As := [.int (nI rw)]) (rest := []) ⟨hx, hb, hml, hown, hts⟩ (k_X6_chained l D ca N ad B tR tK f_6 dd th cap cl fs wk td rw sh fi (upd rk rw kd) (upd rf rw fl) (upd rdy rw dy) rdg bf md ww hh vv rw c_302 c_314 c_315 c_316 c_317 c_319 c_320 c_321 c_322 c_323 c_324 c_325  (by omega) (by omega)) (cwV 1 hts gX6_enter_X6_chained rfl rfl rfl (by decide +kernel) ⟨Nat.le_of_ble_eq_true rfl, Nat.le_of_ble_eq_true rfl⟩) hK hE hB hw (by omega) c_302 rfl rfl rfl rfl hl.1 (Nat.le_of_ble_eq_true rfl) ⟨Nat.zero_le _, Nat.zero_le _⟩ dX6_enter_46 (fun f_7 H locs hp hw => ?_)
    obtain ⟨b1_9, w1_10, v1_11, h1_12, eu⟩ := hp
    have ef_7 : f_7 = va_up (va_up (va_up (va_up (va_up (va_up f_6 302 (.inr (7, mO ad th cap cl fs wk td rw sh 44))) 319 (ai (ca 1) 320 b1_9)) 321 (ai (ca 0) 64 w1_10)) 323 (ai (ca 0) 8 v1_11)) 322 (ai (ca 0) 8 h1_12)) 320 (ai (ca 1) 36 (mkf md (rowS rdg rw ((upd rk rw kd) rw) ((upd rf rw fl) rw) ((upd rdy rw dy) rw)) 32)) := eu
    have c_302 : f_7 302 = .inr (7, mO ad th cap cl fs wk td rw sh 44) := by rw [ef_7, va_up_ne _ _ (by decide), va_up_ne _ _ (by decide), va_up_ne _ _ (by decide), va_up_ne _ _ (by decide), va_up_ne _ _ (by decide), va_up_self]
    have c_319 : f_7 319 = ai (ca 1) 320 b1_9 := by rw [ef_7, va_up_ne _ _ (by decide), va_up_ne _ _ (by decide), va_up_ne _ _ (by decide), va_up_ne _ _ (by decide), va_up_self]
    have c_321 : f_7 321 = ai (ca 0) 64 w1_10 := by rw [ef_7, va_up_ne _ _ (by decide), va_up_ne _ _ (by decide), va_up_ne _ _ (by decide), va_up_self]
    have c_323 : f_7 323 = ai (ca 0) 8 v1_11 := by rw [ef_7, va_up_ne _ _ (by decide), va_up_ne _ _ (by decide), va_up_self]
    have c_322 : f_7 322 = ai (ca 0) 8 h1_12 := by rw [ef_7, va_up_ne _ _ (by decide), va_up_self]
    have c_320 : f_7 320 = ai (ca 1) 36 (mkf md (rowS rdg rw ((upd rk rw kd) rw) ((upd rf rw fl) rw) ((upd rdy rw dy) rw)) 32) := by rw [ef_7, va_up_self]
    have c_320 : f_7 320 = ai (ca 1) 36 (mkf md (rowS rdg rw kd fl dy) 32) := by rw [c_320]; rw [pk_us, pk_us, pk_us]
    refine lv_iconst (v := nI 0) hx hb dX6_enter_49 (by decide) ?_
    refine lv_istore (lv' := [(4, .int (nI 0)), (0, .ref (ad 302)), (1, .int kd), (2, .int fl), (3, .int dy)]) hx hb dX6_enter_50 hl (by decide) rfl (fun ls hl => ?_)
    have hw : xw D vwCl N ad B s.heap (va_up (va_up (va_up (va_up (va_up (va_up (va_up (va_up (va_up (va_up f 314 (ai (ca 0) 200 (upd rk rw kd))) 315 (ai (ca 0) 200 (upd rf rw fl))) 316 (ai (ca 0) 200 (upd rdy rw dy))) 302 (.inr (7, mO ad th cap cl fs wk td rw sh 44))) 319 (ai (ca 1) 320 b1_9)) 321 (ai (ca 0) 64 w1_10)) 323 (ai (ca 0) 8 v1_11)) 322 (ai (ca 0) 8 h1_12)) 320 (ai (ca 1) 36 (mkf md (rowS rdg rw kd fl dy) 32))) 317 (ai (ca 1) 6400 (cpR rdg (mkf md (rowS rdg rw kd fl dy) 32) rw 0))) H locs := by
      have ez : f_7 = va_up (va_up (va_up (va_up (va_up (va_up (va_up (va_up (va_up (va_up f 314 (ai (ca 0) 200 (upd rk rw kd))) 315 (ai (ca 0) 200 (upd rf rw fl))) 316 (ai (ca 0) 200 (upd rdy rw dy))) 302 (.inr (7, mO ad th cap cl fs wk td rw sh 44))) 319 (ai (ca 1) 320 b1_9)) 321 (ai (ca 0) 64 w1_10)) 323 (ai (ca 0) 8 v1_11)) 322 (ai (ca 0) 8 h1_12)) 320 (ai (ca 1) 36 (mkf md (rowS rdg rw kd fl dy) 32))) 317 (ai (ca 1) 6400 (cpR rdg (mkf md (rowS rdg rw kd fl dy) 32) rw 0)) := by rw [cpR_0]; simp only [ef_7, ef_6, ef_5, ef_4, pk_us]; exact (up_noop (by simp only [va_up]; exact b_317)).symm
      rw [← ez]; exact hw
    exact P_52 33 b1_9 w1_10 v1_11 h1_12 0 _ _ _ (by omega) (by omega) hw (lv_sub hl [1, 0] rfl)
  · omega

set_option maxHeartbeats 4000000 in
set_option maxRecDepth 100000 in
theorem k_X6_enter_full (l : Launch) (D : va_G) (ca : Nat → ClassId) (N : Nat) (ad : Nat → Nat) (B tR tK : Nat) (f : Nat → va_E) (dd : xD N ad B) (th : Nat) (cap : Nat) (cl : Nat) (fs : Nat) (wk : Int32) (td : Nat) (rw : Nat) (sh : Nat) (fi : Nat) (kd : Int32) (fl : Int32) (dy : Int32) (c_302 : f 302 = .inr (7, mO ad th cap cl fs wk td rw sh fi))  (hN : 326 ≤ N) (hr9 : rw = 200) : xMv l yX6_enter wsX6_enter rmX6_enter [.ref (ad 302), .int kd, .int fl, .int dy] D ca N ad B tR tK f (fun u => f = u) := by
  refine x_open (cc := cX6_enter) (maxL := 5) (ret := none) (by decide) rfl (Nat.le_of_ble_eq_true rfl) ?_
  intro p e s m below meth c ls hx hb hml hown hts hr hlocks hnm hB hK hE hw hl
  have hown : s.vm.findClass RX6 = some m.cls := hown
  have hl : lv_has ls 5 [(0, .ref (ad 302)), (1, .int kd), (2, .int fl), (3, .int dy)] := hl
  have hin_7 : ∀ w ∈ u_ws RX6 TX6 32, w ∈ wsX6_enter := by decide +kernel
  have hf_203 := hts (.fieldLink RX6 203 "FixityRowsModel" "rows" "I") (by decide +kernel)
  have b_302 := c_302
  refine lv_aload_n hx hb dX6_enter_0 rfl (lv_at hl 0 rfl) ?_
  refine x_get (ci := 7) (C := RX6) (T := TX6) (n := 32) (ref := RX6) hx hb hts hin_7 hown hK hw 302 (by omega) c_302 rfl 17 (by decide) hf_203 (fun _ h => h) rfl dX6_enter_1 ?_
  refine lv_sipush (v := nI 200) hx hb dX6_enter_4 (by decide) ?_
  refine n_icne (tgt := 11) hx hb dX6_enter_7 (by decide) (by omega) (by omega) (fun c_7 => ?_) (fun c_7 => ?_)
  · omega
  · exact x_vret hx hb hr hlocks hw rfl dX6_enter_10

abbrev rmX6_isDue : Room := { frames := 0, cells := 0, slots := 0, locals := 0 }

set_option maxHeartbeats 4000000 in
set_option maxRecDepth 100000 in
theorem k_X6_isDue (l : Launch) (D : va_G) (ca : Nat → ClassId) (N : Nat) (ad : Nat → Nat) (B tR tK : Nat) (f : Nat → va_E) (dd : xD N ad B) (th : Nat) (cap : Nat) (cl : Nat) (fs : Nat) (wk : Int32) (td : Nat) (rw : Nat) (sh : Nat) (fi : Nat) (du : Nat → Int32) (i : Nat) (y : Int32) (c_302 : f 302 = .inr (7, mO ad th cap cl fs wk td rw sh fi)) (c_310 : f 310 = ai (ca 0) 20 du)  (hN : 326 ≤ N) (hi : i < 20) : xMi l yX6_isDue wsX6_isDue rmX6_isDue [.ref (ad 302), .int (nI i), .int y] D ca N ad B tR tK f (fun r u => bI (¬ du i < 0 ∧ ¬ y < du i) = r ∧ f = u) := by
  refine x_open (cc := cX6_isDue) (maxL := 3) (ret := (some .boolean)) (by decide) rfl (Nat.le_of_ble_eq_true rfl) ?_
  intro p e s m below meth c ls hx hb hml hown hts hr hlocks hnm hB hK hE hw hl
  have hown : s.vm.findClass RX6 = some m.cls := hown
  have hl : lv_has ls 3 [(0, .ref (ad 302)), (1, .int (nI i)), (2, .int y)] := hl
  have hin_7 : ∀ w ∈ u_ws RX6 TX6 32, w ∈ wsX6_isDue := by decide +kernel
  have hf_32 := hts (.fieldLink RX6 32 "FixityRowsModel" "due" "[I") (by decide +kernel)
  have b_302 := c_302
  have b_310 := c_310
  refine lv_aload_n hx hb dX6_isDue_0 rfl (lv_at hl 0 rfl) ?_
  refine x_get (ci := 7) (C := RX6) (T := TX6) (n := 32) (ref := RX6) hx hb hts hin_7 hown hK hw 302 (by omega) c_302 rfl 11 (by decide) hf_32 (fun _ h => h) rfl dX6_isDue_1 ?_
  refine lv_iload_n hx hb dX6_isDue_4 rfl (lv_at hl 1 rfl) ?_
  refine x_iald (j := i) hx hb hK hw 310 0 (by omega) c_310 rfl rfl (by omega) (by decide) dX6_isDue_5 ?_
  refine lv_if_lt (tgt := 23) hx hb dX6_isDue_6 (by decide) (fun c_6 => ?_) (fun c_6 => ?_)
  · refine lv_iconst (v := nI 0) hx hb dX6_isDue_23 (by decide) ?_
    exact x_zret hx hb hr hlocks hw (by first | exact Or.inl rfl | exact Or.inr rfl) ⟨(by first | exact bI_t ⟨c_6, c_16⟩ | exact bI_f (fun q => q.2 c_16) | exact bI_f (fun q => q.1 c_6)), rfl⟩ dX6_isDue_24
  · refine lv_aload_n hx hb dX6_isDue_9 rfl (lv_at hl 0 rfl) ?_
    refine x_get (ci := 7) (C := RX6) (T := TX6) (n := 32) (ref := RX6) hx hb hts hin_7 hown hK hw 302 (by omega) c_302 rfl 11 (by decide) hf_32 (fun _ h => h) rfl dX6_isDue_10 ?_
    refine lv_iload_n hx hb dX6_isDue_13 rfl (lv_at hl 1 rfl) ?_
    refine x_iald (j := i) hx hb hK hw 310 0 (by omega) c_310 rfl rfl (by omega) (by decide) dX6_isDue_14 ?_
    refine lv_iload_n hx hb dX6_isDue_15 rfl (lv_at hl 2 rfl) ?_
    refine lv_icmp_gt (tgt := 23) hx hb dX6_isDue_16 (by decide) (fun c_16 => ?_) (fun c_16 => ?_)
    · refine lv_iconst (v := nI 0) hx hb dX6_isDue_23 (by decide) ?_
      exact x_zret hx hb hr hlocks hw (by first | exact Or.inl rfl | exact Or.inr rfl) ⟨(by first | exact bI_t ⟨c_6, c_16⟩ | exact bI_f (fun q => q.2 c_16) | exact bI_f (fun q => q.1 c_6)), rfl⟩ dX6_isDue_24
    · refine lv_iconst (v := nI 1) hx hb dX6_isDue_19 (by decide) ?_
      refine lv_goto (tgt := 24) hx hb dX6_isDue_20 (by decide) ?_
      exact x_zret hx hb hr hlocks hw (by first | exact Or.inl rfl | exact Or.inr rfl) ⟨(by first | exact bI_t ⟨c_6, c_16⟩ | exact bI_f (fun q => q.2 c_16) | exact bI_f (fun q => q.1 c_6)), rfl⟩ dX6_isDue_24
