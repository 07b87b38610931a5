abbrev rmX6_long1 : Room := { frames := 3, cells := 0, slots := 0, locals := 69 }

theorem up_b3 (f : Nat → va_E) (b x y z x' y' z' : va_E) : va_up (va_up (va_up (va_up (va_up (va_up (va_up f 319 b) 321 x) 323 y) 322 z) 321 x') 323 y') 322 z' = va_up (va_up (va_up (va_up f 319 b) 321 x') 323 y') 322 z' := by
  funext j
  simp only [va_up]
  by_cases h1 : j = 322
  · simp [h1]
  · by_cases h2 : j = 323
    · simp [h2]
    · by_cases h3 : j = 321
      · simp [h3]
      · simp [h1, h2, h3]

set_option maxHeartbeats 4000000 in
set_option maxRecDepth 100000 in
theorem k_X6_long1 (l : Launch) (D : va_G) (ca : Nat → ClassId) (N : Nat) (ad : Nat → Nat) (B tR tK : Nat) (f : Nat → va_E) (dd : xD N ad B) (th : Nat) (cap : Nat) (cl : Nat) (fs : Nat) (wk : Int32) (td : Nat) (rw : Nat) (sh : Nat) (fi : Nat) (bf : Nat → Int32) (md : Nat → Int32) (ww : Nat → Int32) (hh : Nat → Int32) (vv : Nat → Int32) (c_302 : f 302 = .inr (7, mO ad th cap cl fs wk td rw sh fi)) (c_319 : f 319 = ai (ca 1) 320 bf) (c_320 : f 320 = ai (ca 1) 36 md) (c_321 : f 321 = ai (ca 0) 64 ww) (c_322 : f 322 = ai (ca 0) 8 hh) (c_323 : f 323 = ai (ca 0) 8 vv) (c_324 : f 324 = ai (ca 0) 8 shR) (c_325 : f 325 = ai (ca 0) 64 shK)  (hN : 326 ≤ N) (hf : fi ≤ 200) : xMv l yX6_long1 wsX6_long1 rmX6_long1 [.ref (ad 302)] D ca N ad B tR tK f (fun u => ∃ b1 : Nat → Int32, ∃ w1 : Nat → Int32, ∃ v1 : Nat → Int32, ∃ h1 : Nat → Int32, (∀ i, i < fi → b1 i = bf i) ∧ u = va_up (va_up (va_up (va_up (va_up f 319 (ai (ca 1) 320 b1)) 321 (ai (ca 0) 64 w1)) 323 (ai (ca 0) 8 v1)) 322 (ai (ca 0) 8 h1)) 320 (ai (ca 1) 36 (mkf md (sha fi (fun i7 => bf i7 &&& nI 255)) 32))) := by
  refine x_open (cc := cX6_long1) (maxL := 4) (ret := none) (by decide) rfl (Nat.le_of_ble_eq_true rfl) ?_
  intro p e s m below meth c ls hx hb hml hown hts hr hlocks hnm hB hK hE hw hl
  have hown : s.vm.findClass RX6 = some m.cls := hown
  have hl : lv_has ls 4 [(0, .ref (ad 302))] := hl
  have hin_7 : ∀ w ∈ u_ws RX6 TX6 32, w ∈ wsX6_long1 := by decide +kernel
  have hf_67 := hts (.fieldLink RX6 67 "FixityRowsModel" "made" "[B") (by decide +kernel)
  have hf_73 := hts (.fieldLink RX6 73 "FixityRowsModel" "h" "[I") (by decide +kernel)
  have hf_87 := hts (.fieldLink RX6 87 "FixityRowsModel" "begins" "[I") (by decide +kernel)
  have hf_64 := hts (.fieldLink RX6 64 "FixityRowsModel" "buffer" "[B") (by decide +kernel)
  have hf_179 := hts (.fieldLink RX6 179 "FixityRowsModel" "filled" "I") (by decide +kernel)
  have b_302 := c_302
  have b_319 := c_319
  have b_320 := c_320
  have b_321 := c_321
  have b_322 := c_322
  have b_323 := c_323
  have b_324 := c_324
  have b_325 := c_325
  have P_138 : ∀ (n_138 : Nat) (k : Nat) (H : Heap) (locs : List Loc) (ls : Array Slot), 32 + 1 ≤ k + n_138 → (k ≤ 32) → xw D vwCl N ad B s.heap (va_up (va_up (va_up (va_up (va_up f 319 (ai (ca 1) 320 (fB bf fi))) 321 (ai (ca 0) 64 ((mB (fB bf fi) (cpyTo hh shR 8) ww vv ((fi + 8) / 64 + 1)).2.1))) 323 (ai (ca 0) 8 ((mB (fB bf fi) (cpyTo hh shR 8) ww vv ((fi + 8) / 64 + 1)).2.2))) 322 (ai (ca 0) 8 ((mB (fB bf fi) (cpyTo hh shR 8) ww vv ((fi + 8) / 64 + 1)).1))) 320 (ai (ca 1) 36 (mkf md (mB (fB bf fi) (cpyTo hh shR 8) ww vv ((fi + 8) / 64 + 1)).1 k))) H locs → lv_has ls 4 [(0, .ref (ad 302)), (3, .int (nI k))] → W p l e rmX6_long1 s m ([.ref (ad 302)] : List Value).toArray below meth c H locs 0 0 (MQ below (xQv (fun u => ∃ b1 : Nat → Int32, ∃ w1 : Nat → Int32, ∃ v1 : Nat → Int32, ∃ h1 : Nat → Int32, (∀ i, i < fi → b1 i = bf i) ∧ u = va_up (va_up (va_up (va_up (va_up f 319 (ai (ca 1) 320 b1)) 321 (ai (ca 0) 64 w1)) 323 (ai (ca 0) 8 v1)) 322 (ai (ca 0) 8 h1)) 320 (ai (ca 1) 36 (mkf md (sha fi (fun i7 => bf i7 &&& nI 255)) 32))) D N ad B) ([.ref (ad 302)] : List Value).toArray s 0 0 (xA B)) (F0 m 138 ls []) := by
    intro n_138
    induction n_138 with
    | zero =>
      intro k H locs ls hm_138 hk hw hl
      exact absurd hm_138 (by omega)
    | succ n_138 ih_138 =>
      intro k H locs ls hm_138 hk hw hl
      have c_302 := b_302
      have c_319 := b_319
      have c_320 := b_320
      have c_321 := b_321
      have c_322 := b_322
      have c_323 := b_323
      have c_324 := b_324
      have c_325 := b_325
      obtain ⟨f_1, ef_1⟩ : ∃ z, z = va_up (va_up (va_up (va_up (va_up f 319 (ai (ca 1) 320 (fB bf fi))) 321 (ai (ca 0) 64 ((mB (fB bf fi) (cpyTo hh shR 8) ww vv ((fi + 8) / 64 + 1)).2.1))) 323 (ai (ca 0) 8 ((mB (fB bf fi) (cpyTo hh shR 8) ww vv ((fi + 8) / 64 + 1)).2.2))) 322 (ai (ca 0) 8 ((mB (fB bf fi) (cpyTo hh shR 8) ww vv ((fi + 8) / 64 + 1)).1))) 320 (ai (ca 1) 36 (mkf md (mB (fB bf fi) (cpyTo hh shR 8) ww vv ((fi + 8) / 64 + 1)).1 k)) := ⟨_, rfl⟩
      have hw : xw D vwCl N ad B s.heap f_1 H locs := by rw [ef_1]; exact hw
      have c_319 : f_1 319 = ai (ca 1) 320 (fB bf fi) := by rw [ef_1, va_up_ne _ _ (by decide), va_up_ne _ _ (by decide), va_up_ne _ _ (by decide), va_up_ne _ _ (by decide), va_up_self]
      have c_321 : f_1 321 = ai (ca 0) 64 ((mB (fB bf fi) (cpyTo hh shR 8) ww vv ((fi + 8) / 64 + 1)).2.1) := by rw [ef_1, va_up_ne _ _ (by decide), va_up_ne _ _ (by decide), va_up_ne _ _ (by decide), va_up_self]
      have c_323 : f_1 323 = ai (ca 0) 8 ((mB (fB bf fi) (cpyTo hh shR 8) ww vv ((fi + 8) / 64 + 1)).2.2) := by rw [ef_1, va_up_ne _ _ (by decide), va_up_ne _ _ (by decide), va_up_self]
      have c_322 : f_1 322 = ai (ca 0) 8 ((mB (fB bf fi) (cpyTo hh shR 8) ww vv ((fi + 8) / 64 + 1)).1) := by rw [ef_1, va_up_ne _ _ (by decide), va_up_self]
      have c_320 : f_1 320 = ai (ca 1) 36 (mkf md (mB (fB bf fi) (cpyTo hh shR 8) ww vv ((fi + 8) / 64 + 1)).1 k) := by rw [ef_1, va_up_self]
      refine lv_iload_n hx hb dX6_long1_138 rfl (lv_at hl 1 rfl) ?_
      refine lv_bipush (v := nI 32) hx hb dX6_long1_139 (by decide) ?_
      refine n_icge (tgt := 175) hx hb dX6_long1_141 (by decide) (by omega) (by omega) (fun c_141 => ?_) (fun c_141 => ?_)
      · exact x_vret hx hb hr hlocks hw ⟨fB bf fi, (mB (fB bf fi) (cpyTo hh shR 8) ww vv ((fi + 8) / 64 + 1)).2.1, (mB (fB bf fi) (cpyTo hh shR 8) ww vv ((fi + 8) / 64 + 1)).2.2, (mB (fB bf fi) (cpyTo hh shR 8) ww vv ((fi + 8) / 64 + 1)).1, (fun i hi => fB_lo hi), (by have ek : k = 32 := (by omega); subst ek; rw [← mkf_ext (mB_ok bf (cpyTo hh shR 8) ww vv fi (fun j hj => cp_in hj))]; simp only [ef_1]; rfl)⟩ dX6_long1_175
      · refine lv_aload_n hx hb dX6_long1_144 rfl (lv_at hl 0 rfl) ?_
        have c_302 : f_1 302 = .inr (7, mO ad th cap cl fs wk td rw sh fi) := by rw [ef_1, va_up_ne _ _ (by decide), va_up_ne _ _ (by decide), va_up_ne _ _ (by decide), va_up_ne _ _ (by decide), va_up_ne _ _ (by decide)]; exact c_302
        refine x_get (ci := 7) (C := RX6) (T := TX6) (n := 32) (ref := RX6) hx hb hts hin_7 hown hK hw 302 (by omega) c_302 rfl 26 (by decide) hf_67 (fun _ h => h) rfl dX6_long1_145 ?_
        refine lv_iload_n hx hb dX6_long1_148 rfl (lv_at hl 1 rfl) ?_
        refine lv_aload_n hx hb dX6_long1_149 rfl (lv_at hl 0 rfl) ?_
        refine x_get (ci := 7) (C := RX6) (T := TX6) (n := 32) (ref := RX6) hx hb hts hin_7 hown hK hw 302 (by omega) c_302 rfl 28 (by decide) hf_73 (fun _ h => h) rfl dX6_long1_150 ?_
        refine lv_iload_n hx hb dX6_long1_153 rfl (lv_at hl 1 rfl) ?_
        refine lv_iconst (v := nI 4) hx hb dX6_long1_154 (by decide) ?_
        refine n_idiv hx hb dX6_long1_155 (by omega) (by omega) (by omega) ?_
        refine x_iald (j := k / 4) hx hb hK hw 322 0 (by omega) c_322 rfl rfl (by omega) (by decide) dX6_long1_156 ?_
        refine lv_bipush (v := nI 24) hx hb dX6_long1_157 (by decide) ?_
        refine lv_bipush (v := nI 8) hx hb dX6_long1_159 (by decide) ?_
        refine lv_iload_n hx hb dX6_long1_161 rfl (lv_at hl 1 rfl) ?_
        refine lv_iconst (v := nI 4) hx hb dX6_long1_162 (by decide) ?_
        refine n_irem hx hb dX6_long1_163 (by omega) (by omega) (by omega) ?_
        refine n_imul hx hb dX6_long1_164 ?_
        refine n_isub hx hb dX6_long1_165 (by omega) ?_
        refine n_iushr hx hb dX6_long1_166 ?_
        refine lv_i2b (v := (jushr (((mB (fB bf fi) (cpyTo hh shR 8) ww vv ((fi + 8) / 64 + 1)).1) (k / 4)) (nI (24 - (8 * (k % 4))))).toInt8.toInt32) hx hb dX6_long1_167 rfl ?_
        refine x_bast (j := k) (y := (jushr (((mB (fB bf fi) (cpyTo hh shR 8) ww vv ((fi + 8) / 64 + 1)).1) (k / 4)) (nI (24 - (8 * (k % 4))))).toInt8.toInt32) hx hb hK dd hw 320 1 (by omega) c_320 rfl rfl (by omega) (by decide) (i8_i8 _) dX6_long1_168 (fun H locs hw => ?_)
        obtain ⟨f_2, ef_2⟩ : ∃ z, z = va_up f_1 320 (ai (ca 1) 36 (upd (mkf md (mB (fB bf fi) (cpyTo hh shR 8) ww vv ((fi + 8) / 64 + 1)).1 k) k ((jushr (((mB (fB bf fi) (cpyTo hh shR 8) ww vv ((fi + 8) / 64 + 1)).1) (k / 4)) (nI (24 - (8 * (k % 4))))).toInt8.toInt32))) := ⟨_, rfl⟩
        have hw : xw D vwCl N ad B s.heap f_2 H locs := by rw [ef_2]; exact hw
        have c_320 : f_2 320 = ai (ca 1) 36 (upd (mkf md (mB (fB bf fi) (cpyTo hh shR 8) ww vv ((fi + 8) / 64 + 1)).1 k) k ((jushr (((mB (fB bf fi) (cpyTo hh shR 8) ww vv ((fi + 8) / 64 + 1)).1) (k / 4)) (nI (24 - (8 * (k % 4))))).toInt8.toInt32)) := va_up_of ef_2
        refine lv_iinc (v := nI (k + 1)) (lv' := [(3, .int (nI (k + 1))), (0, .ref (ad 302))]) hx hb dX6_long1_169 hl (k := 1) rfl (by rw [show Int32.ofInt 1 = nI 1 from rfl]; exact nI_add _ _) (by decide) rfl (fun ls hl => ?_)
        refine lv_goto (tgt := 138) hx hb dX6_long1_172 (by decide) ?_
        have hw : xw D vwCl N ad B s.heap (va_up (va_up (va_up (va_up (va_up f 319 (ai (ca 1) 320 (fB bf fi))) 321 (ai (ca 0) 64 ((mB (fB bf fi) (cpyTo hh shR 8) ww vv ((fi + 8) / 64 + 1)).2.1))) 323 (ai (ca 0) 8 ((mB (fB bf fi) (cpyTo hh shR 8) ww vv ((fi + 8) / 64 + 1)).2.2))) 322 (ai (ca 0) 8 ((mB (fB bf fi) (cpyTo hh shR 8) ww vv ((fi + 8) / 64 + 1)).1))) 320 (ai (ca 1) 36 (mkf md (mB (fB bf fi) (cpyTo hh shR 8) ww vv ((fi + 8) / 64 + 1)).1 (k + 1)))) H locs := by
          have ez : f_2 = va_up (va_up (va_up (va_up (va_up f 319 (ai (ca 1) 320 (fB bf fi))) 321 (ai (ca 0) 64 ((mB (fB bf fi) (cpyTo hh shR 8) ww vv ((fi + 8) / 64 + 1)).2.1))) 323 (ai (ca 0) 8 ((mB (fB bf fi) (cpyTo hh shR 8) ww vv ((fi + 8) / 64 + 1)).2.2))) 322 (ai (ca 0) 8 ((mB (fB bf fi) (cpyTo hh shR 8) ww vv ((fi + 8) / 64 + 1)).1))) 320 (ai (ca 1) 36 (mkf md (mB (fB bf fi) (cpyTo hh shR 8) ww vv ((fi + 8) / 64 + 1)).1 (k + 1))) := by simp only [ef_2, ef_1, up_aa, mkf_s]
          rw [← ez]; exact hw
        exact ih_138 (k + 1) _ _ _ (by omega) (by omega) hw (lv_sub hl [1, 0] rfl)
  have P_120 : ∀ (n_120 : Nat) (b : Nat) (H : Heap) (locs : List Loc) (ls : Array Slot), ((fi + 8) / 64 + 1) + 1 ≤ b + n_120 → (b ≤ ((fi + 8) / 64 + 1)) → xw D vwCl N ad B s.heap (va_up (va_up (va_up (va_up f 319 (ai (ca 1) 320 (fB bf fi))) 321 (ai (ca 0) 64 ((mB (fB bf fi) (cpyTo hh shR 8) ww vv b).2.1))) 323 (ai (ca 0) 8 ((mB (fB bf fi) (cpyTo hh shR 8) ww vv b).2.2))) 322 (ai (ca 0) 8 ((mB (fB bf fi) (cpyTo hh shR 8) ww vv b).1))) H locs → lv_has ls 4 [(0, .ref (ad 302)), (2, .int (nI (((((fi + 8) / 64) * 64) + 56) + 8))), (3, .int (nI (64 * b)))] → W p l e rmX6_long1 s m ([.ref (ad 302)] : List Value).toArray below meth c H locs 0 0 (MQ below (xQv (fun u => ∃ b1 : Nat → Int32, ∃ w1 : Nat → Int32, ∃ v1 : Nat → Int32, ∃ h1 : Nat → Int32, (∀ i, i < fi → b1 i = bf i) ∧ u = va_up (va_up (va_up (va_up (va_up f 319 (ai (ca 1) 320 b1)) 321 (ai (ca 0) 64 w1)) 323 (ai (ca 0) 8 v1)) 322 (ai (ca 0) 8 h1)) 320 (ai (ca 1) 36 (mkf md (sha fi (fun i7 => bf i7 &&& nI 255)) 32))) D N ad B) ([.ref (ad 302)] : List Value).toArray s 0 0 (xA B)) (F0 m 120 ls []) := by
    intro n_120
    induction n_120 with
    | zero =>
      intro b H locs ls hm_120 hb9 hw hl
      exact absurd hm_120 (by omega)
    | succ n_120 ih_120 =>
      intro b H locs ls hm_120 hb9 hw hl
      have c_302 := b_302
      have c_319 := b_319
      have c_320 := b_320
      have c_321 := b_321
      have c_322 := b_322
      have c_323 := b_323
      have c_324 := b_324
      have c_325 := b_325
      obtain ⟨f_3, ef_3⟩ : ∃ z, z = va_up (va_up (va_up (va_up f 319 (ai (ca 1) 320 (fB bf fi))) 321 (ai (ca 0) 64 ((mB (fB bf fi) (cpyTo hh shR 8) ww vv b).2.1))) 323 (ai (ca 0) 8 ((mB (fB bf fi) (cpyTo hh shR 8) ww vv b).2.2))) 322 (ai (ca 0) 8 ((mB (fB bf fi) (cpyTo hh shR 8) ww vv b).1)) := ⟨_, rfl⟩
      have hw : xw D vwCl N ad B s.heap f_3 H locs := by rw [ef_3]; exact hw
      have c_319 : f_3 319 = ai (ca 1) 320 (fB bf fi) := by rw [ef_3, va_up_ne _ _ (by decide), va_up_ne _ _ (by decide), va_up_ne _ _ (by decide), va_up_self]
      have c_321 : f_3 321 = ai (ca 0) 64 ((mB (fB bf fi) (cpyTo hh shR 8) ww vv b).2.1) := by rw [ef_3, va_up_ne _ _ (by decide), va_up_ne _ _ (by decide), va_up_self]
      have c_323 : f_3 323 = ai (ca 0) 8 ((mB (fB bf fi) (cpyTo hh shR 8) ww vv b).2.2) := by rw [ef_3, va_up_ne _ _ (by decide), va_up_self]
      have c_322 : f_3 322 = ai (ca 0) 8 ((mB (fB bf fi) (cpyTo hh shR 8) ww vv b).1) := by rw [ef_3, va_up_self]
      refine lv_iload_n hx hb dX6_long1_120 rfl (lv_at hl 2 rfl) ?_
      refine lv_iload_n hx hb dX6_long1_121 rfl (lv_at hl 1 rfl) ?_
      refine n_icge (tgt := 136) hx hb dX6_long1_122 (by decide) (by omega) (by omega) (fun c_122 => ?_) (fun c_122 => ?_)
      · refine lv_iconst (v := nI 0) hx hb dX6_long1_136 (by decide) ?_
        refine lv_istore_n (lv' := [(3, .int (nI 0)), (0, .ref (ad 302)), (2, .int (nI (((((fi + 8) / 64) * 64) + 56) + 8)))]) hx hb dX6_long1_137 rfl hl (by decide) rfl (fun ls hl => ?_)
        have hw : xw D vwCl N ad B s.heap (va_up (va_up (va_up (va_up (va_up f 319 (ai (ca 1) 320 (fB bf fi))) 321 (ai (ca 0) 64 ((mB (fB bf fi) (cpyTo hh shR 8) ww vv ((fi + 8) / 64 + 1)).2.1))) 323 (ai (ca 0) 8 ((mB (fB bf fi) (cpyTo hh shR 8) ww vv ((fi + 8) / 64 + 1)).2.2))) 322 (ai (ca 0) 8 ((mB (fB bf fi) (cpyTo hh shR 8) ww vv ((fi + 8) / 64 + 1)).1))) 320 (ai (ca 1) 36 (mkf md (mB (fB bf fi) (cpyTo hh shR 8) ww vv ((fi + 8) / 64 + 1)).1 0))) H locs := by
          have ez : f_3 = va_up (va_up (va_up (va_up (va_up f 319 (ai (ca 1) 320 (fB bf fi))) 321 (ai (ca 0) 64 ((mB (fB bf fi) (cpyTo hh shR 8) ww vv ((fi + 8) / 64 + 1)).2.1))) 323 (ai (ca 0) 8 ((mB (fB bf fi) (cpyTo hh shR 8) ww vv ((fi + 8) / 64 + 1)).2.2))) 322 (ai (ca 0) 8 ((mB (fB bf fi) (cpyTo hh shR 8) ww vv ((fi + 8) / 64 + 1)).1))) 320 (ai (ca 1) 36 (mkf md (mB (fB bf fi) (cpyTo hh shR 8) ww vv ((fi + 8) / 64 + 1)).1 0)) := by have eb : b = ((fi + 8) / 64 + 1) := (by omega); subst eb; rw [ef_3, mkf_0]; simp only [← b_320]; rw [← va_up_ne f (ai (ca 1) 320 (fB bf fi)) (show 320 ≠ 319 by decide), ← va_up_ne (va_up f 319 (ai (ca 1) 320 (fB bf fi))) _ (show 320 ≠ 321 by decide), ← va_up_ne (va_up (va_up f 319 (ai (ca 1) 320 (fB bf fi))) 321 _) _ (show 320 ≠ 323 by decide), ← va_up_ne (va_up (va_up (va_up f 319 (ai (ca 1) 320 (fB bf fi))) 321 _) 323 _) _ (show 320 ≠ 322 by decide), up_same]
          rw [← ez]; exact hw
        exact P_138 33 0 _ _ _ (by omega) (by omega) hw (lv_sub hl [1, 0] rfl)
      · refine lv_aload_n hx hb dX6_long1_125 rfl (lv_at hl 0 rfl) ?_
        refine lv_iload_n hx hb dX6_long1_126 rfl (lv_at hl 2 rfl) ?_
        have c_302 : f_3 302 = .inr (7, mO ad th cap cl fs wk td rw sh fi) := by rw [ef_3, va_up_ne _ _ (by decide), va_up_ne _ _ (by decide), va_up_ne _ _ (by decide), va_up_ne _ _ (by decide)]; exact c_302
        have c_325 : f_3 325 = ai (ca 0) 64 shK := by rw [ef_3, va_up_ne _ _ (by decide), va_up_ne _ _ (by decide), va_up_ne _ _ (by decide), va_up_ne _ _ (by decide)]; exact c_325
        refine x_Vv (q := 302) (As := [.int (nI (64 * b))]) (rest := []) ⟨hx, hb, hml, hown, hts⟩ (k_X6_block l D ca N ad B tR tK f_3 dd th cap cl fs wk td rw sh fi (fB bf fi) ((mB (fB bf fi) (cpyTo hh shR 8) ww vv b).2.1) ((mB (fB bf fi) (cpyTo hh shR 8) ww vv b).1) ((mB (fB bf fi) (cpyTo hh shR 8) ww vv b).2.2) (64 * b) c_302 c_319 c_321 c_322 c_323 c_325  (by omega) (by omega)) (cwV 1 hts gX6_long1_X6_block rfl rfl rfl (by decide +kernel) ⟨Nat.le_of_ble_eq_true rfl, Nat.le_of_ble_eq_true rfl⟩) hK hE hB hw (by omega) c_302 rfl rfl rfl rfl hl.1 (Nat.le_of_ble_eq_true rfl) ⟨Nat.zero_le _, Nat.zero_le _⟩ dX6_long1_127 (fun f_4 H locs hp hw => ?_)
        have eu := hp
        have ef_4 : f_4 = va_up (va_up (va_up f_3 321 (ai (ca 0) 64 (wM ((mB (fB bf fi) (cpyTo hh shR 8) ww vv b).2.1) (fB bf fi) (64 * b) 64))) 323 (ai (ca 0) 8 (rd ((mB (fB bf fi) (cpyTo hh shR 8) ww vv b).1) (wM ((mB (fB bf fi) (cpyTo hh shR 8) ww vv b).2.1) (fB bf fi) (64 * b) 64) 64))) 322 (ai (ca 0) 8 (mixTo ((mB (fB bf fi) (cpyTo hh shR 8) ww vv b).1) (rd ((mB (fB bf fi) (cpyTo hh shR 8) ww vv b).1) (wM ((mB (fB bf fi) (cpyTo hh shR 8) ww vv b).2.1) (fB bf fi) (64 * b) 64) 64) 8)) := eu
        have c_321 : f_4 321 = ai (ca 0) 64 (wM ((mB (fB bf fi) (cpyTo hh shR 8) ww vv b).2.1) (fB bf fi) (64 * b) 64) := by rw [ef_4, va_up_ne _ _ (by decide), va_up_ne _ _ (by decide), va_up_self]
        have c_323 : f_4 323 = ai (ca 0) 8 (rd ((mB (fB bf fi) (cpyTo hh shR 8) ww vv b).1) (wM ((mB (fB bf fi) (cpyTo hh shR 8) ww vv b).2.1) (fB bf fi) (64 * b) 64) 64) := by rw [ef_4, va_up_ne _ _ (by decide), va_up_self]
        have c_322 : f_4 322 = ai (ca 0) 8 (mixTo ((mB (fB bf fi) (cpyTo hh shR 8) ww vv b).1) (rd ((mB (fB bf fi) (cpyTo hh shR 8) ww vv b).1) (wM ((mB (fB bf fi) (cpyTo hh shR 8) ww vv b).2.1) (fB bf fi) (64 * b) 64) 64) 8) := by rw [ef_4, va_up_self]
        refine lv_iinc (v := nI ((64 * b) + 64)) (lv' := [(3, .int (nI ((64 * b) + 64))), (0, .ref (ad 302)), (2, .int (nI (((((fi + 8) / 64) * 64) + 56) + 8)))]) hx hb dX6_long1_130 hl (k := 2) rfl (by rw [show Int32.ofInt 64 = nI 64 from rfl]; exact nI_add _ _) (by decide) rfl (fun ls hl => ?_)
        refine lv_goto (tgt := 120) hx hb dX6_long1_133 (by decide) ?_
        have hw : xw D vwCl N ad B s.heap (va_up (va_up (va_up (va_up f 319 (ai (ca 1) 320 (fB bf fi))) 321 (ai (ca 0) 64 ((mB (fB bf fi) (cpyTo hh shR 8) ww vv (b + 1)).2.1))) 323 (ai (ca 0) 8 ((mB (fB bf fi) (cpyTo hh shR 8) ww vv (b + 1)).2.2))) 322 (ai (ca 0) 8 ((mB (fB bf fi) (cpyTo hh shR 8) ww vv (b + 1)).1))) H locs := by
          have ez : f_4 = va_up (va_up (va_up (va_up f 319 (ai (ca 1) 320 (fB bf fi))) 321 (ai (ca 0) 64 ((mB (fB bf fi) (cpyTo hh shR 8) ww vv (b + 1)).2.1))) 323 (ai (ca 0) 8 ((mB (fB bf fi) (cpyTo hh shR 8) ww vv (b + 1)).2.2))) 322 (ai (ca 0) 8 ((mB (fB bf fi) (cpyTo hh shR 8) ww vv (b + 1)).1)) := by simp only [ef_4, ef_3, up_b3]; rfl
          rw [← ez]; exact hw
        exact ih_120 (b + 1) _ _ _ (by omega) (by omega) hw (lv_sub hl [1, 2, 0] rfl)
  have P_94 : ∀ (n_94 : Nat) (k : Nat) (H : Heap) (locs : List Loc) (ls : Array Slot), 8 + 1 ≤ k + n_94 → (k ≤ 8) → xw D vwCl N ad B s.heap (va_up (va_up f 319 (ai (ca 1) 320 (fB bf fi))) 322 (ai (ca 0) 8 (cpyTo hh shR k))) H locs → lv_has ls 4 [(0, .ref (ad 302)), (2, .int (nI (((((fi + 8) / 64) * 64) + 56) + 8))), (3, .int (nI k))] → W p l e rmX6_long1 s m ([.ref (ad 302)] : List Value).toArray below meth c H locs 0 0 (MQ below (xQv (fun u => ∃ b1 : Nat → Int32, ∃ w1 : Nat → Int32, ∃ v1 : Nat → Int32, ∃ h1 : Nat → Int32, (∀ i, i < fi → b1 i = bf i) ∧ u = va_up (va_up (va_up (va_up (va_up f 319 (ai (ca 1) 320 b1)) 321 (ai (ca 0) 64 w1)) 323 (ai (ca 0) 8 v1)) 322 (ai (ca 0) 8 h1)) 320 (ai (ca 1) 36 (mkf md (sha fi (fun i7 => bf i7 &&& nI 255)) 32))) D N ad B) ([.ref (ad 302)] : List Value).toArray s 0 0 (xA B)) (F0 m 94 ls []) := by
    intro n_94
    induction n_94 with
    | zero =>
      intro k H locs ls hm_94 hk hw hl
      exact absurd hm_94 (by omega)
    | succ n_94 ih_94 =>
      intro k H locs ls hm_94 hk hw hl
      have c_302 := b_302
      have c_319 := b_319
      have c_320 := b_320
      have c_321 := b_321
      have c_322 := b_322
      have c_323 := b_323
      have c_324 := b_324
      have c_325 := b_325
      obtain ⟨f_6, ef_6⟩ : ∃ z, z = va_up (va_up f 319 (ai (ca 1) 320 (fB bf fi))) 322 (ai (ca 0) 8 (cpyTo hh shR k)) := ⟨_, rfl⟩
      have hw : xw D vwCl N ad B s.heap f_6 H locs := by rw [ef_6]; exact hw
      have c_319 : f_6 319 = ai (ca 1) 320 (fB bf fi) := by rw [ef_6, va_up_ne _ _ (by decide), va_up_self]
      have c_322 : f_6 322 = ai (ca 0) 8 (cpyTo hh shR k) := by rw [ef_6, va_up_self]
      refine lv_iload_n hx hb dX6_long1_94 rfl (lv_at hl 2 rfl) ?_
      refine lv_bipush (v := nI 8) hx hb dX6_long1_95 (by decide) ?_
      refine n_icge (tgt := 118) hx hb dX6_long1_97 (by decide) (by omega) (by omega) (fun c_97 => ?_) (fun c_97 => ?_)
      · refine lv_iconst (v := nI 0) hx hb dX6_long1_118 (by decide) ?_
        refine lv_istore_n (lv' := [(3, .int (nI 0)), (0, .ref (ad 302)), (2, .int (nI (((((fi + 8) / 64) * 64) + 56) + 8)))]) hx hb dX6_long1_119 rfl hl (by decide) rfl (fun ls hl => ?_)
        have hw : xw D vwCl N ad B s.heap (va_up (va_up (va_up (va_up f 319 (ai (ca 1) 320 (fB bf fi))) 321 (ai (ca 0) 64 ((mB (fB bf fi) (cpyTo hh shR 8) ww vv 0).2.1))) 323 (ai (ca 0) 8 ((mB (fB bf fi) (cpyTo hh shR 8) ww vv 0).2.2))) 322 (ai (ca 0) 8 ((mB (fB bf fi) (cpyTo hh shR 8) ww vv 0).1))) H locs := by
          have ez : f_6 = va_up (va_up (va_up (va_up f 319 (ai (ca 1) 320 (fB bf fi))) 321 (ai (ca 0) 64 ((mB (fB bf fi) (cpyTo hh shR 8) ww vv 0).2.1))) 323 (ai (ca 0) 8 ((mB (fB bf fi) (cpyTo hh shR 8) ww vv 0).2.2))) 322 (ai (ca 0) 8 ((mB (fB bf fi) (cpyTo hh shR 8) ww vv 0).1)) := by have ek : k = 8 := (by omega); subst ek; rw [ef_6]; show _ = va_up (va_up (va_up (va_up f 319 (ai (ca 1) 320 (fB bf fi))) 321 (ai (ca 0) 64 ww)) 323 (ai (ca 0) 8 vv)) 322 (ai (ca 0) 8 (cpyTo hh shR 8)); rw [← b_321, ← b_323, ← va_up_ne f (ai (ca 1) 320 (fB bf fi)) (show 321 ≠ 319 by decide), up_same, ← va_up_ne f (ai (ca 1) 320 (fB bf fi)) (show 323 ≠ 319 by decide), up_same]
          rw [← ez]; exact hw
        exact P_120 ((((fi + 8) / 64 + 1) + 1)) 0 _ _ _ (by omega) (by omega) hw (lv_sub hl [1, 2, 0] rfl)
      · refine lv_aload_n hx hb dX6_long1_100 rfl (lv_at hl 0 rfl) ?_
        have c_302 : f_6 302 = .inr (7, mO ad th cap cl fs wk td rw sh fi) := by rw [ef_6, va_up_ne _ _ (by decide), va_up_ne _ _ (by decide)]; exact c_302
        refine x_get (ci := 7) (C := RX6) (T := TX6) (n := 32) (ref := RX6) hx hb hts hin_7 hown hK hw 302 (by omega) c_302 rfl 28 (by decide) hf_73 (fun _ h => h) rfl dX6_long1_101 ?_
        refine lv_iload_n hx hb dX6_long1_104 rfl (lv_at hl 2 rfl) ?_
        refine lv_aload_n hx hb dX6_long1_105 rfl (lv_at hl 0 rfl) ?_
        refine x_get (ci := 7) (C := RX6) (T := TX6) (n := 32) (ref := RX6) hx hb hts hin_7 hown hK hw 302 (by omega) c_302 rfl 30 (by decide) hf_87 (fun _ h => h) rfl dX6_long1_106 ?_
        refine lv_iload_n hx hb dX6_long1_109 rfl (lv_at hl 2 rfl) ?_
        have c_324 : f_6 324 = ai (ca 0) 8 shR := by rw [ef_6, va_up_ne _ _ (by decide), va_up_ne _ _ (by decide)]; exact c_324
        refine x_iald (j := k) hx hb hK hw 324 0 (by omega) c_324 rfl rfl (by omega) (by decide) dX6_long1_110 ?_
        refine lv_topi (fun x_7 ex_7 => ?_)
        refine x_iast (j := k) hx hb hK dd hw 322 0 (by omega) c_322 rfl rfl (by omega) (by decide) dX6_long1_111 (fun H locs hw => ?_)
        obtain ⟨f_8, ef_8⟩ : ∃ z, z = va_up f_6 322 (ai (ca 0) 8 (upd (cpyTo hh shR k) k x_7)) := ⟨_, rfl⟩
        have hw : xw D vwCl N ad B s.heap f_8 H locs := by rw [ef_8]; exact hw
        have c_322 : f_8 322 = ai (ca 0) 8 (upd (cpyTo hh shR k) k x_7) := va_up_of ef_8
        refine lv_iinc (v := nI (k + 1)) (lv' := [(3, .int (nI (k + 1))), (0, .ref (ad 302)), (2, .int (nI (((((fi + 8) / 64) * 64) + 56) + 8)))]) hx hb dX6_long1_112 hl (k := 2) rfl (by rw [show Int32.ofInt 1 = nI 1 from rfl]; exact nI_add _ _) (by decide) rfl (fun ls hl => ?_)
        refine lv_goto (tgt := 94) hx hb dX6_long1_115 (by decide) ?_
        have hw : xw D vwCl N ad B s.heap (va_up (va_up f 319 (ai (ca 1) 320 (fB bf fi))) 322 (ai (ca 0) 8 (cpyTo hh shR (k + 1)))) H locs := by
          have ez : f_8 = va_up (va_up f 319 (ai (ca 1) 320 (fB bf fi))) 322 (ai (ca 0) 8 (cpyTo hh shR (k + 1))) := by simp only [ef_8, ex_7, ef_6, up_aa, cp_step]
          rw [← ez]; exact hw
        exact ih_94 (k + 1) _ _ _ (by omega) (by omega) hw (lv_sub hl [1, 2, 0] rfl)
  have P_50 : ∀ (n_50 : Nat) (k : Nat) (H : Heap) (locs : List Loc) (ls : Array Slot), 8 + 1 ≤ k + n_50 → (k ≤ 8) → xw D vwCl N ad B s.heap (va_up f 319 (ai (ca 1) 320 (lenB (padB bf fi ((((fi + 8) / 64) * 64) + 56)) ((((fi + 8) / 64) * 64) + 56) (nI (8 * fi)) k))) H locs → lv_has ls 4 [(0, .ref (ad 302)), (1, .int (nI (8 * fi))), (2, .int (nI ((((fi + 8) / 64) * 64) + 56))), (3, .int (nI k))] → W p l e rmX6_long1 s m ([.ref (ad 302)] : List Value).toArray below meth c H locs 0 0 (MQ below (xQv (fun u => ∃ b1 : Nat → Int32, ∃ w1 : Nat → Int32, ∃ v1 : Nat → Int32, ∃ h1 : Nat → Int32, (∀ i, i < fi → b1 i = bf i) ∧ u = va_up (va_up (va_up (va_up (va_up f 319 (ai (ca 1) 320 b1)) 321 (ai (ca 0) 64 w1)) 323 (ai (ca 0) 8 v1)) 322 (ai (ca 0) 8 h1)) 320 (ai (ca 1) 36 (mkf md (sha fi (fun i7 => bf i7 &&& nI 255)) 32))) D N ad B) ([.ref (ad 302)] : List Value).toArray s 0 0 (xA B)) (F0 m 50 ls []) := by
    intro n_50
    induction n_50 with
    | zero =>
      intro k H locs ls hm_50 hk hw hl
      exact absurd hm_50 (by omega)
    | succ n_50 ih_50 =>
      intro k H locs ls hm_50 hk hw hl
      have c_302 := b_302
      have c_319 := b_319
      have c_320 := b_320
      have c_321 := b_321
      have c_322 := b_322
      have c_323 := b_323
      have c_324 := b_324
      have c_325 := b_325
      obtain ⟨f_9, ef_9⟩ : ∃ z, z = va_up f 319 (ai (ca 1) 320 (lenB (padB bf fi ((((fi + 8) / 64) * 64) + 56)) ((((fi + 8) / 64) * 64) + 56) (nI (8 * fi)) k)) := ⟨_, rfl⟩
      have hw : xw D vwCl N ad B s.heap f_9 H locs := by rw [ef_9]; exact hw
      have c_319 : f_9 319 = ai (ca 1) 320 (lenB (padB bf fi ((((fi + 8) / 64) * 64) + 56)) ((((fi + 8) / 64) * 64) + 56) (nI (8 * fi)) k) := by rw [ef_9, va_up_self]
      refine lv_iload_n hx hb dX6_long1_50 rfl (lv_at hl 3 rfl) ?_
      refine lv_bipush (v := nI 8) hx hb dX6_long1_51 (by decide) ?_
      refine n_icge (tgt := 89) hx hb dX6_long1_53 (by decide) (by omega) (by omega) (fun c_53 => ?_) (fun c_53 => ?_)
      · refine lv_iinc (v := nI (((((fi + 8) / 64) * 64) + 56) + 8)) (lv' := [(2, .int (nI (((((fi + 8) / 64) * 64) + 56) + 8))), (0, .ref (ad 302)), (1, .int (nI (8 * fi))), (3, .int (nI k))]) hx hb dX6_long1_89 hl (k := 2) rfl (by rw [show Int32.ofInt 8 = nI 8 from rfl]; exact nI_add _ _) (by decide) rfl (fun ls hl => ?_)
        refine lv_iconst (v := nI 0) hx hb dX6_long1_92 (by decide) ?_
        refine lv_istore_n (lv' := [(3, .int (nI 0)), (2, .int (nI (((((fi + 8) / 64) * 64) + 56) + 8))), (0, .ref (ad 302)), (1, .int (nI (8 * fi)))]) hx hb dX6_long1_93 rfl hl (by decide) rfl (fun ls hl => ?_)
        have hw : xw D vwCl N ad B s.heap (va_up (va_up f 319 (ai (ca 1) 320 (fB bf fi))) 322 (ai (ca 0) 8 (cpyTo hh shR 0))) H locs := by
          have ez : f_9 = va_up (va_up f 319 (ai (ca 1) 320 (fB bf fi))) 322 (ai (ca 0) 8 (cpyTo hh shR 0)) := by have ek : k = 8 := (by omega); subst ek; rw [ef_9, cp_0]; show _ = va_up (va_up f 319 (ai (ca 1) 320 (fB bf fi))) 322 (ai (ca 0) 8 hh); rw [← b_322, ← va_up_ne f (ai (ca 1) 320 (fB bf fi)) (show 322 ≠ 319 by decide), up_same]; rfl
          rw [← ez]; exact hw
        exact P_94 9 0 _ _ _ (by omega) (by omega) hw (lv_sub hl [2, 1, 0] rfl)
      · refine lv_aload_n hx hb dX6_long1_56 rfl (lv_at hl 0 rfl) ?_
        have c_302 : f_9 302 = .inr (7, mO ad th cap cl fs wk td rw sh fi) := by rw [ef_9, va_up_ne _ _ (by decide)]; exact c_302
        refine x_get (ci := 7) (C := RX6) (T := TX6) (n := 32) (ref := RX6) hx hb hts hin_7 hown hK hw 302 (by omega) c_302 rfl 25 (by decide) hf_64 (fun _ h => h) rfl dX6_long1_57 ?_
        refine lv_iload_n hx hb dX6_long1_60 rfl (lv_at hl 2 rfl) ?_
        refine lv_iload_n hx hb dX6_long1_61 rfl (lv_at hl 3 rfl) ?_
        refine n_iadd hx hb dX6_long1_62 ?_
        refine lv_iload_n hx hb dX6_long1_63 rfl (lv_at hl 3 rfl) ?_
        refine lv_iconst (v := nI 4) hx hb dX6_long1_64 (by decide) ?_
        refine n_icge (tgt := 72) hx hb dX6_long1_65 (by decide) (by omega) (by omega) (fun c_65 => ?_) (fun c_65 => ?_)
        · refine lv_iload_n hx hb dX6_long1_72 rfl (lv_at hl 1 rfl) ?_
          refine lv_bipush (v := nI 8) hx hb dX6_long1_73 (by decide) ?_
          refine lv_bipush (v := nI 7) hx hb dX6_long1_75 (by decide) ?_
          refine lv_iload_n hx hb dX6_long1_77 rfl (lv_at hl 3 rfl) ?_
          refine n_isub hx hb dX6_long1_78 (by omega) ?_
          refine n_imul hx hb dX6_long1_79 ?_
          refine n_iushr hx hb dX6_long1_80 ?_
          refine lv_i2b (v := (jushr (nI (8 * fi)) (nI (8 * (7 - k)))).toInt8.toInt32) hx hb dX6_long1_81 rfl ?_
          refine x_bast (j := ((((fi + 8) / 64) * 64) + 56) + k) (y := lby (nI (8 * fi)) k) hx hb hK dd hw 319 1 (by omega) c_319 rfl rfl (by omega) (by decide) (by unfold lby; first | (rw [if_pos c_65]; decide) | (rw [if_neg (by omega)]; exact i8_i8 _)) dX6_long1_82 (fun H locs hw => ?_)
          obtain ⟨f_10, ef_10⟩ : ∃ z, z = va_up f_9 319 (ai (ca 1) 320 (upd (lenB (padB bf fi ((((fi + 8) / 64) * 64) + 56)) ((((fi + 8) / 64) * 64) + 56) (nI (8 * fi)) k) (((((fi + 8) / 64) * 64) + 56) + k) (lby (nI (8 * fi)) k))) := ⟨_, rfl⟩
          have hw : xw D vwCl N ad B s.heap f_10 H locs := by rw [ef_10]; exact hw
          have c_319 : f_10 319 = ai (ca 1) 320 (upd (lenB (padB bf fi ((((fi + 8) / 64) * 64) + 56)) ((((fi + 8) / 64) * 64) + 56) (nI (8 * fi)) k) (((((fi + 8) / 64) * 64) + 56) + k) (lby (nI (8 * fi)) k)) := va_up_of ef_10
          refine lv_iinc (v := nI (k + 1)) (lv' := [(3, .int (nI (k + 1))), (0, .ref (ad 302)), (1, .int (nI (8 * fi))), (2, .int (nI ((((fi + 8) / 64) * 64) + 56)))]) hx hb dX6_long1_83 hl (k := 3) rfl (by rw [show Int32.ofInt 1 = nI 1 from rfl]; exact nI_add _ _) (by decide) rfl (fun ls hl => ?_)
          refine lv_goto (tgt := 50) hx hb dX6_long1_86 (by decide) ?_
          have hw : xw D vwCl N ad B s.heap (va_up f 319 (ai (ca 1) 320 (lenB (padB bf fi ((((fi + 8) / 64) * 64) + 56)) ((((fi + 8) / 64) * 64) + 56) (nI (8 * fi)) (k + 1)))) H locs := by
            have ez : f_10 = va_up f 319 (ai (ca 1) 320 (lenB (padB bf fi ((((fi + 8) / 64) * 64) + 56)) ((((fi + 8) / 64) * 64) + 56) (nI (8 * fi)) (k + 1))) := by simp only [ef_10, ef_9, up_aa]; rw [← lenB_s]
            rw [← ez]; exact hw
          exact ih_50 (k + 1) _ _ _ (by omega) (by omega) hw (lv_sub hl [1, 2, 3, 0] rfl)
        · refine lv_iconst (v := nI 0) hx hb dX6_long1_68 (by decide) ?_
          refine lv_goto (tgt := 82) hx hb dX6_long1_69 (by decide) ?_
          refine x_bast (j := ((((fi + 8) / 64) * 64) + 56) + k) (y := lby (nI (8 * fi)) k) hx hb hK dd hw 319 1 (by omega) c_319 rfl rfl (by omega) (by decide) (by unfold lby; first | (rw [if_pos c_65]; decide) | (rw [if_neg (by omega)]; exact i8_i8 _)) dX6_long1_82 (fun H locs hw => ?_)
          obtain ⟨f_11, ef_11⟩ : ∃ z, z = va_up f_9 319 (ai (ca 1) 320 (upd (lenB (padB bf fi ((((fi + 8) / 64) * 64) + 56)) ((((fi + 8) / 64) * 64) + 56) (nI (8 * fi)) k) (((((fi + 8) / 64) * 64) + 56) + k) (lby (nI (8 * fi)) k))) := ⟨_, rfl⟩
          have hw : xw D vwCl N ad B s.heap f_11 H locs := by rw [ef_11]; exact hw
          have c_319 : f_11 319 = ai (ca 1) 320 (upd (lenB (padB bf fi ((((fi + 8) / 64) * 64) + 56)) ((((fi + 8) / 64) * 64) + 56) (nI (8 * fi)) k) (((((fi + 8) / 64) * 64) + 56) + k) (lby (nI (8 * fi)) k)) := va_up_of ef_11
          refine lv_iinc (v := nI (k + 1)) (lv' := [(3, .int (nI (k + 1))), (0, .ref (ad 302)), (1, .int (nI (8 * fi))), (2, .int (nI ((((fi + 8) / 64) * 64) + 56)))]) hx hb dX6_long1_83 hl (k := 3) rfl (by rw [show Int32.ofInt 1 = nI 1 from rfl]; exact nI_add _ _) (by decide) rfl (fun ls hl => ?_)
          refine lv_goto (tgt := 50) hx hb dX6_long1_86 (by decide) ?_
          have hw : xw D vwCl N ad B s.heap (va_up f 319 (ai (ca 1) 320 (lenB (padB bf fi ((((fi + 8) / 64) * 64) + 56)) ((((fi + 8) / 64) * 64) + 56) (nI (8 * fi)) (k + 1)))) H locs := by
            have ez : f_11 = va_up f 319 (ai (ca 1) 320 (lenB (padB bf fi ((((fi + 8) / 64) * 64) + 56)) ((((fi + 8) / 64) * 64) + 56) (nI (8 * fi)) (k + 1))) := by simp only [ef_11, ef_9, up_aa]; rw [← lenB_s]
            rw [← ez]; exact hw
          exact ih_50 (k + 1) _ _ _ (by omega) (by omega) hw (lv_sub hl [1, 2, 3, 0] rfl)
  have P_26 : ∀ (n_26 : Nat) (i : Nat) (H : Heap) (locs : List Loc) (ls : Array Slot), (((fi + 8) / 64) * 64) + 56 + 1 ≤ i + n_26 → (fi < i) → (i ≤ (((fi + 8) / 64) * 64) + 56) → xw D vwCl N ad B s.heap (va_up f 319 (ai (ca 1) 320 (padB bf fi i))) H locs → lv_has ls 4 [(0, .ref (ad 302)), (1, .int (nI (8 * fi))), (2, .int (nI i))] → W p l e rmX6_long1 s m ([.ref (ad 302)] : List Value).toArray below meth c H locs 0 0 (MQ below (xQv (fun u => ∃ b1 : Nat → Int32, ∃ w1 : Nat → Int32, ∃ v1 : Nat → Int32, ∃ h1 : Nat → Int32, (∀ i, i < fi → b1 i = bf i) ∧ u = va_up (va_up (va_up (va_up (va_up f 319 (ai (ca 1) 320 b1)) 321 (ai (ca 0) 64 w1)) 323 (ai (ca 0) 8 v1)) 322 (ai (ca 0) 8 h1)) 320 (ai (ca 1) 36 (mkf md (sha fi (fun i7 => bf i7 &&& nI 255)) 32))) D N ad B) ([.ref (ad 302)] : List Value).toArray s 0 0 (xA B)) (F0 m 26 ls []) := by
    intro n_26
    induction n_26 with
    | zero =>
      intro i H locs ls hm_26 hi1 hi2 hw hl
      exact absurd hm_26 (by omega)
    | succ n_26 ih_26 =>
      intro i H locs ls hm_26 hi1 hi2 hw hl
      have c_302 := b_302
      have c_319 := b_319
      have c_320 := b_320
      have c_321 := b_321
      have c_322 := b_322
      have c_323 := b_323
      have c_324 := b_324
      have c_325 := b_325
      obtain ⟨f_12, ef_12⟩ : ∃ z, z = va_up f 319 (ai (ca 1) 320 (padB bf fi i)) := ⟨_, rfl⟩
      have hw : xw D vwCl N ad B s.heap f_12 H locs := by rw [ef_12]; exact hw
      have c_319 : f_12 319 = ai (ca 1) 320 (padB bf fi i) := by rw [ef_12, va_up_self]
      refine lv_iload_n hx hb dX6_long1_26 rfl (lv_at hl 2 rfl) ?_
      refine lv_bipush (v := nI 64) hx hb dX6_long1_27 (by decide) ?_
      refine n_irem hx hb dX6_long1_29 (by omega) (by omega) (by omega) ?_
      refine lv_bipush (v := nI 56) hx hb dX6_long1_30 (by decide) ?_
      refine n_iceq (tgt := 48) hx hb dX6_long1_32 (by decide) (by omega) (by omega) (fun c_32 => ?_) (fun c_32 => ?_)
      · refine lv_iconst (v := nI 0) hx hb dX6_long1_48 (by decide) ?_
        refine lv_istore_n (lv' := [(3, .int (nI 0)), (0, .ref (ad 302)), (1, .int (nI (8 * fi))), (2, .int (nI i))]) hx hb dX6_long1_49 rfl hl (by decide) rfl (fun ls hl => ?_)
        have hw : xw D vwCl N ad B s.heap (va_up f 319 (ai (ca 1) 320 (lenB (padB bf fi ((((fi + 8) / 64) * 64) + 56)) ((((fi + 8) / 64) * 64) + 56) (nI (8 * fi)) 0))) H locs := by
          have ez : f_12 = va_up f 319 (ai (ca 1) 320 (lenB (padB bf fi ((((fi + 8) / 64) * 64) + 56)) ((((fi + 8) / 64) * 64) + 56) (nI (8 * fi)) 0)) := by have ei : i = (((fi + 8) / 64) * 64) + 56 := (by omega); subst ei; rw [ef_12, lenB_0]
          rw [← ez]; exact hw
        exact P_50 9 0 _ _ _ (by omega) (by omega) hw (by have hl := lv_sub (l' := [(0, .ref (ad 302)), (1, .int (nI (8 * fi))), (2, .int (nI i)), (3, .int (nI 0))]) hl [1, 2, 3, 0] rfl; have ei : i = (((fi + 8) / 64) * 64) + 56 := (by omega); rw [ei] at hl; exact hl)
      · refine lv_aload_n hx hb dX6_long1_35 rfl (lv_at hl 0 rfl) ?_
        have c_302 : f_12 302 = .inr (7, mO ad th cap cl fs wk td rw sh fi) := by rw [ef_12, va_up_ne _ _ (by decide)]; exact c_302
        refine x_get (ci := 7) (C := RX6) (T := TX6) (n := 32) (ref := RX6) hx hb hts hin_7 hown hK hw 302 (by omega) c_302 rfl 25 (by decide) hf_64 (fun _ h => h) rfl dX6_long1_36 ?_
        refine lv_iload_n hx hb dX6_long1_39 rfl (lv_at hl 2 rfl) ?_
        refine lv_iconst (v := nI 0) hx hb dX6_long1_40 (by decide) ?_
        refine x_bast (j := i) (y := nI 0) hx hb hK dd hw 319 1 (by omega) c_319 rfl rfl (by omega) (by decide) (by decide) dX6_long1_41 (fun H locs hw => ?_)
        obtain ⟨f_13, ef_13⟩ : ∃ z, z = va_up f_12 319 (ai (ca 1) 320 (upd (padB bf fi i) i (nI 0))) := ⟨_, rfl⟩
        have hw : xw D vwCl N ad B s.heap f_13 H locs := by rw [ef_13]; exact hw
        have c_319 : f_13 319 = ai (ca 1) 320 (upd (padB bf fi i) i (nI 0)) := va_up_of ef_13
        refine lv_iinc (v := nI (i + 1)) (lv' := [(2, .int (nI (i + 1))), (0, .ref (ad 302)), (1, .int (nI (8 * fi)))]) hx hb dX6_long1_42 hl (k := 2) rfl (by rw [show Int32.ofInt 1 = nI 1 from rfl]; exact nI_add _ _) (by decide) rfl (fun ls hl => ?_)
        refine lv_goto (tgt := 26) hx hb dX6_long1_45 (by decide) ?_
        have hw : xw D vwCl N ad B s.heap (va_up f 319 (ai (ca 1) 320 (padB bf fi (i + 1)))) H locs := by
          have ez : f_13 = va_up f 319 (ai (ca 1) 320 (padB bf fi (i + 1))) := by simp only [ef_13, ef_12, up_aa, padB_s bf fi i hi1]
          rw [← ez]; exact hw
        exact ih_26 (i + 1) _ _ _ (by omega) (by omega) (by omega) hw (lv_sub hl [1, 2, 0] rfl)
  refine lv_bipush (v := nI 8) hx hb dX6_long1_0 (by decide) ?_
  refine lv_aload_n hx hb dX6_long1_2 rfl (lv_at hl 0 rfl) ?_
  refine x_get (ci := 7) (C := RX6) (T := TX6) (n := 32) (ref := RX6) hx hb hts hin_7 hown hK hw 302 (by omega) c_302 rfl 24 (by decide) hf_179 (fun _ h => h) rfl dX6_long1_3 ?_
  refine n_imul hx hb dX6_long1_6 ?_
  refine lv_istore_n (lv' := [(1, .int (nI (8 * fi))), (0, .ref (ad 302))]) hx hb dX6_long1_7 rfl hl (by decide) rfl (fun ls hl => ?_)
  refine lv_aload_n hx hb dX6_long1_8 rfl (lv_at hl 1 rfl) ?_
  refine x_get (ci := 7) (C := RX6) (T := TX6) (n := 32) (ref := RX6) hx hb hts hin_7 hown hK hw 302 (by omega) c_302 rfl 25 (by decide) hf_64 (fun _ h => h) rfl dX6_long1_9 ?_
  refine lv_aload_n hx hb dX6_long1_12 rfl (lv_at hl 1 rfl) ?_
  refine x_get (ci := 7) (C := RX6) (T := TX6) (n := 32) (ref := RX6) hx hb hts hin_7 hown hK hw 302 (by omega) c_302 rfl 24 (by decide) hf_179 (fun _ h => h) rfl dX6_long1_13 ?_
  refine lv_bipush (v := (-128)) hx hb dX6_long1_16 (by decide) ?_
  refine x_bast (j := fi) (y := (-128)) hx hb hK dd hw 319 1 (by omega) c_319 rfl rfl (by omega) (by decide) (by decide) dX6_long1_18 (fun H locs hw => ?_)
  obtain ⟨f_14, ef_14⟩ : ∃ z, z = va_up f 319 (ai (ca 1) 320 (upd bf fi ((-128)))) := ⟨_, rfl⟩
  have hw : xw D vwCl N ad B s.heap f_14 H locs := by rw [ef_14]; exact hw
  have c_319 : f_14 319 = ai (ca 1) 320 (upd bf fi ((-128))) := va_up_of ef_14
  refine lv_aload_n hx hb dX6_long1_19 rfl (lv_at hl 1 rfl) ?_
  have c_302 : f_14 302 = .inr (7, mO ad th cap cl fs wk td rw sh fi) := by rw [ef_14, va_up_ne _ _ (by decide)]; exact c_302
  refine x_get (ci := 7) (C := RX6) (T := TX6) (n := 32) (ref := RX6) hx hb hts hin_7 hown hK hw 302 (by omega) c_302 rfl 24 (by decide) hf_179 (fun _ h => h) rfl dX6_long1_20 ?_
  refine lv_iconst (v := nI 1) hx hb dX6_long1_23 (by decide) ?_
  refine n_iadd hx hb dX6_long1_24 ?_
  refine lv_istore_n (lv' := [(2, .int (nI (fi + 1))), (1, .int (nI (8 * fi))), (0, .ref (ad 302))]) hx hb dX6_long1_25 rfl hl (by decide) rfl (fun ls hl => ?_)
  have hw : xw D vwCl N ad B s.heap (va_up f 319 (ai (ca 1) 320 (padB bf fi (fi + 1)))) H locs := by
    have ez : f_14 = va_up f 319 (ai (ca 1) 320 (padB bf fi (fi + 1))) := by rw [ef_14, padB_0]
    rw [← ez]; exact hw
  exact P_26 (((((fi + 8) / 64) * 64) + 56 + 1)) (fi + 1) _ _ _ (by omega) (by omega) (by omega) hw (lv_sub hl [2, 1, 0] rfl)
