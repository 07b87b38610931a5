/-! ===== RowChain's constructor ===== -/
def x3F (ca : Nat → ClassId) (ad : Nat → Nat) (f : Nat → va_E) : Nat → va_E := fun y => if y < 90 then f y else if 100 ≤ y then ai (ca 0) 8 z0 else if y = 90 then .inr (4, [.ref (ad 91), .ref (ad 94), .ref (ad 96), .ref (ad 97), .ref (ad 98), .ref (ad 99), .int (nI 0)]) else if y = 91 then .inr (2, [.ref (ad 92), .ref (ad 93)]) else if y = 92 then ai (ca 0) 8 z0 else if y = 93 then ai (ca 0) 64 z0 else if y = 94 then .inr (3, [.ref (ad 95), .int (nI 0)]) else if y = 95 then ai (ca 0) 200 z0 else if y = 96 then ai (ca 0) 200 z0 else if y = 97 then ai (ca 0) 200 z0 else if y = 98 then ai (ca 0) 200 z0 else if y = 99 then aq (ca 4) 200 (fun i => some (ad (100 + i))) else f y
theorem x3F_lo (ca : Nat → ClassId) (ad : Nat → Nat) (f : Nat → va_E) {y : Nat} (h : y < 90) : x3F ca ad f y = f y := if_pos h
theorem x3F_hi (ca : Nat → ClassId) (ad : Nat → Nat) (f : Nat → va_E) {y : Nat} (h : 100 ≤ y) : x3F ca ad f y = ai (ca 0) 8 z0 := (if_neg (by omega)).trans (if_pos h)

abbrev rmX3_init : Room := { frames := 2, cells := 209, slots := 2676, locals := 41 }

set_option maxHeartbeats 4000000 in
set_option maxRecDepth 100000 in
theorem k_X3_init (l : Launch) (D : va_G) (ca : Nat → ClassId) (ad : Nat → Nat) (B tR tK : Nat) (f : Nat → va_E) (had : ∀ k, ad k = B + k)  (c_90 : f 90 = .inr (4, [.null, .null, .null, .null, .null, .null, .int (nI 0)]))  : xMc l yX3_init wsX3_init rmX3_init [.ref (ad 90)] D ca 91 300 ad B tR tK f (fun u => u = x3F ca ad f) 209 2676 := by
  refine x_openC (cc := cX3_init) (maxL := 1) (ret := none) (by decide) rfl (Nat.le_of_ble_eq_true rfl) ?_
  intro p e s m below meth c ls hx hb hml hown hts hr hlocks hnm hB hK hE hz hO hw hl
  have hown : s.vm.findClass RX3 = some m.cls := hown
  have hl : lv_has ls 1 [(0, .ref (ad 90))] := hl
  have dd := xD_of had 91
  have hs : s.heap.size + 0 ≤ B + 91 := by omega
  have hin_2 : ∀ w ∈ u_ws RX1 TX1 2, w ∈ wsX3_init := by decide +kernel
  have hin_4 : ∀ w ∈ u_ws RX3 TX3 7, w ∈ wsX3_init := by decide +kernel
  have hf_12 := hts (.fieldLink RX3 12 "FixityRows$RowChain" "longDigest" "LFixityRows$LongDigest;") (by decide +kernel)
  have hin_3 : ∀ w ∈ u_ws RX2 TX2 2, w ∈ wsX3_init := by decide +kernel
  have hf_21 := hts (.fieldLink RX3 21 "FixityRows$RowChain" "sealed" "LFixityRows$Octets;") (by decide +kernel)
  have hf_25 := hts (.fieldLink RX3 25 "FixityRows$RowChain" "kinds" "[I") (by decide +kernel)
  have hf_29 := hts (.fieldLink RX3 29 "FixityRows$RowChain" "fileNumbers" "[I") (by decide +kernel)
  have hf_32 := hts (.fieldLink RX3 32 "FixityRows$RowChain" "days" "[I") (by decide +kernel)
  have hf_37 := hts (.fieldLink RX3 37 "FixityRows$RowChain" "digests" "[[I") (by decide +kernel)
  have b_90 := c_90
  refine lv_aload_n hx hb dX3_init_0 rfl (lv_at hl 0 rfl) ?_
  refine W.objInit hx hb hown (hts (.methodLink RX3 3 objectInit) (by decide +kernel)) (hts (.instanceMethod objectInit) (by decide +kernel)) (hts _ (List.mem_of_getElem? (i := 3) rfl)) rfl (by rw [hml]; exact hl.1) rfl dX3_init_1 (Nat.le_of_ble_eq_true rfl) (Nat.le_of_ble_eq_true rfl) ?_
  refine W.eq (g2 := F0 m 4 ls []) rfl ?_
  refine lv_aload_n hx hb dX3_init_4 rfl (lv_at hl 0 rfl) ?_
  refine x_new (ci := 2) (fs := [.null, .null]) (C := RX1) (T := TX1) (n := 2) hx hb hts hin_2 tyX1 tyX1_ok hown (hts (.classLink RX3 9 RX1) (by decide +kernel)) (hts (.instantiable RX1 2) (by decide +kernel)) (hts (.initialized RX1) (by decide +kernel)) hK had hB hs hw rfl (by decide +kernel) (Nat.le_of_ble_eq_true rfl) (Nat.le_of_ble_eq_true rfl) dX3_init_5 (fun H hw => ?_)
  obtain ⟨f_1, ef_1⟩ : ∃ z, z = va_up f 91 (.inr (2, [.null, .null])) := ⟨_, rfl⟩
  have dd := xD_of had 92
  have hs : s.heap.size + 1 ≤ B + 92 := by omega
  have hw : xw D vwCl 92 ad B s.heap f_1 H [] := by rw [ef_1]; exact hw
  have c_91 : f_1 91 = .inr (2, [.null, .null]) := va_up_of ef_1
  refine lv_dup hx hb dX3_init_8 rfl ?_
  refine x_IN (q := 91) (As := []) (rest := [.ref (ad 91), .ref (ad 90)]) ⟨hx, hb, hml, hown, hts⟩ (k_X1_init l D ca 92 ad B tR tK f_1 had 91 (by omega) c_91 ) ⟨va_cnB 0 hts gX3_init_X1_init_n11 rfl rfl rfl (hE.2.1 (RX3, 11, yX1_init) (by decide)) (hts (.initialized RX1) (by decide +kernel)) (by decide +kernel) ⟨Nat.le_of_ble_eq_true rfl, Nat.le_of_ble_eq_true rfl⟩, rfl, hts (.instanceMethod yX1_init) (by decide +kernel)⟩ hK hE hO hB hs hw rfl rfl hl.1 (Nat.le_of_ble_eq_true rfl) ⟨(Nat.le_of_ble_eq_true rfl), (Nat.le_of_ble_eq_true rfl)⟩ dX3_init_9 (fun f_2 H locs hp hw => ?_)
  have dd := xD_of had 94
  have hs : s.heap.size + 3 ≤ B + 94 := by omega
  have ef_2 : f_2 = va_up (va_up (va_up f_1 92 (ai (ca 0) 8 z0)) 93 (ai (ca 0) 64 z0)) 91 (.inr (2, [.ref (ad 92), .ref (ad 93)])) := hp
  have hw : xw D vwCl 94 ad B s.heap f_2 H locs := hw
  have c_92 : f_2 92 = ai (ca 0) 8 z0 := by rw [ef_2, va_up_ne _ _ (by decide), va_up_ne _ _ (by decide), va_up_self]
  have c_93 : f_2 93 = ai (ca 0) 64 z0 := by rw [ef_2, va_up_ne _ _ (by decide), va_up_self]
  have c_91 : f_2 91 = .inr (2, [.ref (ad 92), .ref (ad 93)]) := by rw [ef_2, va_up_self]
  have c_90 : f_2 90 = .inr (4, [.null, .null, .null, .null, .null, .null, .int (nI 0)]) := by rw [ef_2, va_up_ne _ _ (by decide), va_up_ne _ _ (by decide), va_up_ne _ _ (by decide), ef_1, va_up_ne _ _ (by decide)]; exact c_90
  refine x_putF (ci := 4) (C := RX3) (T := TX3) (n := 7) (ref := RX3) (fs' := [.ref (ad 91), .null, .null, .null, .null, .null, .int (nI 0)]) hx hb hts hin_4 tyX3 tyX3_ok nmX3 hown hK dd hw 90 (by omega) c_90 rfl 0 (by decide) hf_12 (fun _ h => h) rfl hnm rfl rfl rfl (Nat.le_of_ble_eq_true rfl) rfl dX3_init_12 (fun H locs hw => ?_)
  obtain ⟨f_3, ef_3⟩ : ∃ z, z = va_up f_2 90 (.inr (4, [.ref (ad 91), .null, .null, .null, .null, .null, .int (nI 0)])) := ⟨_, rfl⟩
  have hw : xw D vwCl 94 ad B s.heap f_3 H locs := by rw [ef_3]; exact hw
  have c_90 : f_3 90 = .inr (4, [.ref (ad 91), .null, .null, .null, .null, .null, .int (nI 0)]) := va_up_of ef_3
  refine lv_aload_n hx hb dX3_init_15 rfl (lv_at hl 0 rfl) ?_
  refine x_new (ci := 3) (fs := [.null, .int (nI 0)]) (C := RX2) (T := TX2) (n := 2) hx hb hts hin_3 tyX2 tyX2_ok hown (hts (.classLink RX3 18 RX2) (by decide +kernel)) (hts (.instantiable RX2 2) (by decide +kernel)) (hts (.initialized RX2) (by decide +kernel)) hK had hB hs hw rfl (by decide +kernel) (Nat.le_of_ble_eq_true rfl) (Nat.le_of_ble_eq_true rfl) dX3_init_16 (fun H hw => ?_)
  obtain ⟨f_4, ef_4⟩ : ∃ z, z = va_up f_3 94 (.inr (3, [.null, .int (nI 0)])) := ⟨_, rfl⟩
  have dd := xD_of had 95
  have hs : s.heap.size + 4 ≤ B + 95 := by omega
  have hw : xw D vwCl 95 ad B s.heap f_4 H locs := by rw [ef_4]; exact hw
  have c_94 : f_4 94 = .inr (3, [.null, .int (nI 0)]) := va_up_of ef_4
  refine lv_dup hx hb dX3_init_19 rfl ?_
  refine x_IN (q := 94) (As := []) (rest := [.ref (ad 94), .ref (ad 90)]) ⟨hx, hb, hml, hown, hts⟩ (k_X2_init l D ca 95 ad B tR tK f_4 had 94 (by omega) c_94 ) ⟨va_cnB 0 hts gX3_init_X2_init_n20 rfl rfl rfl (hE.2.1 (RX3, 20, yX2_init) (by decide)) (hts (.initialized RX2) (by decide +kernel)) (by decide +kernel) ⟨Nat.le_of_ble_eq_true rfl, Nat.le_of_ble_eq_true rfl⟩, rfl, hts (.instanceMethod yX2_init) (by decide +kernel)⟩ hK hE hO hB hs hw rfl rfl hl.1 (Nat.le_of_ble_eq_true rfl) ⟨(Nat.le_of_ble_eq_true rfl), (Nat.le_of_ble_eq_true rfl)⟩ dX3_init_20 (fun f_5 H locs hp hw => ?_)
  have dd := xD_of had 96
  have hs : s.heap.size + 5 ≤ B + 96 := by omega
  have ef_5 : f_5 = va_up (va_up f_4 95 (ai (ca 0) 200 z0)) 94 (.inr (3, [.ref (ad 95), .int (nI 0)])) := hp
  have hw : xw D vwCl 96 ad B s.heap f_5 H locs := hw
  have c_95 : f_5 95 = ai (ca 0) 200 z0 := by rw [ef_5, va_up_ne _ _ (by decide), va_up_self]
  have c_94 : f_5 94 = .inr (3, [.ref (ad 95), .int (nI 0)]) := by rw [ef_5, va_up_self]
  have c_90 : f_5 90 = .inr (4, [.ref (ad 91), .null, .null, .null, .null, .null, .int (nI 0)]) := by rw [ef_5, va_up_ne _ _ (by decide), va_up_ne _ _ (by decide), ef_4, va_up_ne _ _ (by decide)]; exact c_90
  refine x_putF (ci := 4) (C := RX3) (T := TX3) (n := 7) (ref := RX3) (fs' := [.ref (ad 91), .ref (ad 94), .null, .null, .null, .null, .int (nI 0)]) hx hb hts hin_4 tyX3 tyX3_ok nmX3 hown hK dd hw 90 (by omega) c_90 rfl 1 (by decide) hf_21 (fun _ h => h) rfl hnm rfl rfl rfl (Nat.le_of_ble_eq_true rfl) rfl dX3_init_23 (fun H locs hw => ?_)
  obtain ⟨f_6, ef_6⟩ : ∃ z, z = va_up f_5 90 (.inr (4, [.ref (ad 91), .ref (ad 94), .null, .null, .null, .null, .int (nI 0)])) := ⟨_, rfl⟩
  have hw : xw D vwCl 96 ad B s.heap f_6 H locs := by rw [ef_6]; exact hw
  have c_90 : f_6 90 = .inr (4, [.ref (ad 91), .ref (ad 94), .null, .null, .null, .null, .int (nI 0)]) := va_up_of ef_6
  refine lv_aload_n hx hb dX3_init_26 rfl (lv_at hl 0 rfl) ?_
  refine lv_sipush (v := nI 200) hx hb dX3_init_27 (by decide) ?_
  refine x_newa (atype := .int) (ty := .int) (cT := ca 0) (N' := 200) (z := (200, .inl z0)) hx hb (hts (.arrayClass .int) (by decide +kernel)) rfl hK had hB hs hw 0 rfl (fun _ _ h => h) (fun cA => z0_i cA _) (by decide) (nI_clamp (by decide)) (by decide) (Nat.le_of_ble_eq_true rfl) (Nat.le_of_ble_eq_true rfl) dX3_init_30 (fun H hw => ?_)
  obtain ⟨f_7, ef_7⟩ : ∃ z, z = va_up f_6 96 (ai (ca 0) 200 z0) := ⟨_, rfl⟩
  have dd := xD_of had 97
  have hs : s.heap.size + 6 ≤ B + 97 := by omega
  have hw : xw D vwCl 97 ad B s.heap f_7 H locs := by rw [ef_7]; exact hw
  have c_96 : f_7 96 = ai (ca 0) 200 z0 := va_up_of ef_7
  have c_90 : f_7 90 = .inr (4, [.ref (ad 91), .ref (ad 94), .null, .null, .null, .null, .int (nI 0)]) := by rw [ef_7, va_up_ne _ _ (by decide)]; exact c_90
  refine x_putF (ci := 4) (C := RX3) (T := TX3) (n := 7) (ref := RX3) (fs' := [.ref (ad 91), .ref (ad 94), .ref (ad 96), .null, .null, .null, .int (nI 0)]) hx hb hts hin_4 tyX3 tyX3_ok nmX3 hown hK dd hw 90 (by omega) c_90 rfl 2 (by decide) hf_25 (fun _ h => h) rfl hnm rfl rfl rfl (Nat.le_of_ble_eq_true rfl) rfl dX3_init_32 (fun H locs hw => ?_)
  obtain ⟨f_8, ef_8⟩ : ∃ z, z = va_up f_7 90 (.inr (4, [.ref (ad 91), .ref (ad 94), .ref (ad 96), .null, .null, .null, .int (nI 0)])) := ⟨_, rfl⟩
  have hw : xw D vwCl 97 ad B s.heap f_8 H locs := by rw [ef_8]; exact hw
  have c_90 : f_8 90 = .inr (4, [.ref (ad 91), .ref (ad 94), .ref (ad 96), .null, .null, .null, .int (nI 0)]) := va_up_of ef_8
  refine lv_aload_n hx hb dX3_init_35 rfl (lv_at hl 0 rfl) ?_
  refine lv_sipush (v := nI 200) hx hb dX3_init_36 (by decide) ?_
  refine x_newa (atype := .int) (ty := .int) (cT := ca 0) (N' := 200) (z := (200, .inl z0)) hx hb (hts (.arrayClass .int) (by decide +kernel)) rfl hK had hB hs hw 0 rfl (fun _ _ h => h) (fun cA => z0_i cA _) (by decide) (nI_clamp (by decide)) (by decide) (Nat.le_of_ble_eq_true rfl) (Nat.le_of_ble_eq_true rfl) dX3_init_39 (fun H hw => ?_)
  obtain ⟨f_9, ef_9⟩ : ∃ z, z = va_up f_8 97 (ai (ca 0) 200 z0) := ⟨_, rfl⟩
  have dd := xD_of had 98
  have hs : s.heap.size + 7 ≤ B + 98 := by omega
  have hw : xw D vwCl 98 ad B s.heap f_9 H locs := by rw [ef_9]; exact hw
  have c_97 : f_9 97 = ai (ca 0) 200 z0 := va_up_of ef_9
  have c_90 : f_9 90 = .inr (4, [.ref (ad 91), .ref (ad 94), .ref (ad 96), .null, .null, .null, .int (nI 0)]) := by rw [ef_9, va_up_ne _ _ (by decide)]; exact c_90
  refine x_putF (ci := 4) (C := RX3) (T := TX3) (n := 7) (ref := RX3) (fs' := [.ref (ad 91), .ref (ad 94), .ref (ad 96), .ref (ad 97), .null, .null, .int (nI 0)]) hx hb hts hin_4 tyX3 tyX3_ok nmX3 hown hK dd hw 90 (by omega) c_90 rfl 3 (by decide) hf_29 (fun _ h => h) rfl hnm rfl rfl rfl (Nat.le_of_ble_eq_true rfl) rfl dX3_init_41 (fun H locs hw => ?_)
  obtain ⟨f_10, ef_10⟩ : ∃ z, z = va_up f_9 90 (.inr (4, [.ref (ad 91), .ref (ad 94), .ref (ad 96), .ref (ad 97), .null, .null, .int (nI 0)])) := ⟨_, rfl⟩
  have hw : xw D vwCl 98 ad B s.heap f_10 H locs := by rw [ef_10]; exact hw
  have c_90 : f_10 90 = .inr (4, [.ref (ad 91), .ref (ad 94), .ref (ad 96), .ref (ad 97), .null, .null, .int (nI 0)]) := va_up_of ef_10
  refine lv_aload_n hx hb dX3_init_44 rfl (lv_at hl 0 rfl) ?_
  refine lv_sipush (v := nI 200) hx hb dX3_init_45 (by decide) ?_
  refine x_newa (atype := .int) (ty := .int) (cT := ca 0) (N' := 200) (z := (200, .inl z0)) hx hb (hts (.arrayClass .int) (by decide +kernel)) rfl hK had hB hs hw 0 rfl (fun _ _ h => h) (fun cA => z0_i cA _) (by decide) (nI_clamp (by decide)) (by decide) (Nat.le_of_ble_eq_true rfl) (Nat.le_of_ble_eq_true rfl) dX3_init_48 (fun H hw => ?_)
  obtain ⟨f_11, ef_11⟩ : ∃ z, z = va_up f_10 98 (ai (ca 0) 200 z0) := ⟨_, rfl⟩
  have dd := xD_of had 99
  have hs : s.heap.size + 8 ≤ B + 99 := by omega
  have hw : xw D vwCl 99 ad B s.heap f_11 H locs := by rw [ef_11]; exact hw
  have c_98 : f_11 98 = ai (ca 0) 200 z0 := va_up_of ef_11
  have c_90 : f_11 90 = .inr (4, [.ref (ad 91), .ref (ad 94), .ref (ad 96), .ref (ad 97), .null, .null, .int (nI 0)]) := by rw [ef_11, va_up_ne _ _ (by decide)]; exact c_90
  refine x_putF (ci := 4) (C := RX3) (T := TX3) (n := 7) (ref := RX3) (fs' := [.ref (ad 91), .ref (ad 94), .ref (ad 96), .ref (ad 97), .ref (ad 98), .null, .int (nI 0)]) hx hb hts hin_4 tyX3 tyX3_ok nmX3 hown hK dd hw 90 (by omega) c_90 rfl 4 (by decide) hf_32 (fun _ h => h) rfl hnm rfl rfl rfl (Nat.le_of_ble_eq_true rfl) rfl dX3_init_50 (fun H locs hw => ?_)
  obtain ⟨f_12, ef_12⟩ : ∃ z, z = va_up f_11 90 (.inr (4, [.ref (ad 91), .ref (ad 94), .ref (ad 96), .ref (ad 97), .ref (ad 98), .null, .int (nI 0)])) := ⟨_, rfl⟩
  have hw : xw D vwCl 99 ad B s.heap f_12 H locs := by rw [ef_12]; exact hw
  have c_90 : f_12 90 = .inr (4, [.ref (ad 91), .ref (ad 94), .ref (ad 96), .ref (ad 97), .ref (ad 98), .null, .int (nI 0)]) := va_up_of ef_12
  refine lv_aload_n hx hb dX3_init_53 rfl (lv_at hl 0 rfl) ?_
  refine lv_sipush (v := nI 200) hx hb dX3_init_54 (by decide) ?_
  refine lv_bipush (v := nI 8) hx hb dX3_init_57 (by decide) ?_
  have c_91 : f_12 91 = .inr (2, [.ref (ad 92), .ref (ad 93)]) := by rw [ef_12, va_up_ne _ _ (by decide), ef_11, va_up_ne _ _ (by decide), ef_10, va_up_ne _ _ (by decide), ef_9, va_up_ne _ _ (by decide), ef_8, va_up_ne _ _ (by decide), ef_7, va_up_ne _ _ (by decide), ef_6, va_up_ne _ _ (by decide), ef_5, va_up_ne _ _ (by decide), va_up_ne _ _ (by decide), ef_4, va_up_ne _ _ (by decide), ef_3, va_up_ne _ _ (by decide)]; exact c_91
  have c_92 : f_12 92 = ai (ca 0) 8 z0 := by rw [ef_12, va_up_ne _ _ (by decide), ef_11, va_up_ne _ _ (by decide), ef_10, va_up_ne _ _ (by decide), ef_9, va_up_ne _ _ (by decide), ef_8, va_up_ne _ _ (by decide), ef_7, va_up_ne _ _ (by decide), ef_6, va_up_ne _ _ (by decide), ef_5, va_up_ne _ _ (by decide), va_up_ne _ _ (by decide), ef_4, va_up_ne _ _ (by decide), ef_3, va_up_ne _ _ (by decide)]; exact c_92
  have c_93 : f_12 93 = ai (ca 0) 64 z0 := by rw [ef_12, va_up_ne _ _ (by decide), ef_11, va_up_ne _ _ (by decide), ef_10, va_up_ne _ _ (by decide), ef_9, va_up_ne _ _ (by decide), ef_8, va_up_ne _ _ (by decide), ef_7, va_up_ne _ _ (by decide), ef_6, va_up_ne _ _ (by decide), ef_5, va_up_ne _ _ (by decide), va_up_ne _ _ (by decide), ef_4, va_up_ne _ _ (by decide), ef_3, va_up_ne _ _ (by decide)]; exact c_93
  have c_94 : f_12 94 = .inr (3, [.ref (ad 95), .int (nI 0)]) := by rw [ef_12, va_up_ne _ _ (by decide), ef_11, va_up_ne _ _ (by decide), ef_10, va_up_ne _ _ (by decide), ef_9, va_up_ne _ _ (by decide), ef_8, va_up_ne _ _ (by decide), ef_7, va_up_ne _ _ (by decide), ef_6, va_up_ne _ _ (by decide)]; exact c_94
  have c_95 : f_12 95 = ai (ca 0) 200 z0 := by rw [ef_12, va_up_ne _ _ (by decide), ef_11, va_up_ne _ _ (by decide), ef_10, va_up_ne _ _ (by decide), ef_9, va_up_ne _ _ (by decide), ef_8, va_up_ne _ _ (by decide), ef_7, va_up_ne _ _ (by decide), ef_6, va_up_ne _ _ (by decide)]; exact c_95
  have c_96 : f_12 96 = ai (ca 0) 200 z0 := by rw [ef_12, va_up_ne _ _ (by decide), ef_11, va_up_ne _ _ (by decide), ef_10, va_up_ne _ _ (by decide), ef_9, va_up_ne _ _ (by decide), ef_8, va_up_ne _ _ (by decide)]; exact c_96
  have c_97 : f_12 97 = ai (ca 0) 200 z0 := by rw [ef_12, va_up_ne _ _ (by decide), ef_11, va_up_ne _ _ (by decide), ef_10, va_up_ne _ _ (by decide)]; exact c_97
  have c_98 : f_12 98 = ai (ca 0) 200 z0 := by rw [ef_12, va_up_ne _ _ (by decide)]; exact c_98
  refine x_mna (n' := 200) (k' := 8) hx hb hown (hts (.classLink RX3 35 "[[I") (by decide +kernel)) hK hO had hs (by omega) hw (by decide) (by decide) (by decide) (by decide) (by decide) (by decide) (Nat.le_of_ble_eq_true rfl) (Nat.le_of_ble_eq_true rfl) dX3_init_59 (fun H locs hw => ?_)
  obtain ⟨f_13, ef_13⟩ : ∃ z, z = mnQ f_12 99 200 8 (ca 4) (ca 0) ad := ⟨_, rfl⟩
  have dd := xD_of had 300
  have hs : s.heap.size + 209 ≤ B + 300 := by omega
  have hw : xw D vwCl 300 ad B s.heap f_13 H locs := by rw [ef_13]; exact hw
  have c_90 : f_13 90 = .inr (4, [.ref (ad 91), .ref (ad 94), .ref (ad 96), .ref (ad 97), .ref (ad 98), .null, .int (nI 0)]) := by rw [ef_13, mnQ_lo _ _ _ (by omega)]; exact c_90
  have c_91 : f_13 91 = .inr (2, [.ref (ad 92), .ref (ad 93)]) := by rw [ef_13, mnQ_lo _ _ _ (by omega)]; exact c_91
  have c_92 : f_13 92 = ai (ca 0) 8 z0 := by rw [ef_13, mnQ_lo _ _ _ (by omega)]; exact c_92
  have c_93 : f_13 93 = ai (ca 0) 64 z0 := by rw [ef_13, mnQ_lo _ _ _ (by omega)]; exact c_93
  have c_94 : f_13 94 = .inr (3, [.ref (ad 95), .int (nI 0)]) := by rw [ef_13, mnQ_lo _ _ _ (by omega)]; exact c_94
  have c_95 : f_13 95 = ai (ca 0) 200 z0 := by rw [ef_13, mnQ_lo _ _ _ (by omega)]; exact c_95
  have c_96 : f_13 96 = ai (ca 0) 200 z0 := by rw [ef_13, mnQ_lo _ _ _ (by omega)]; exact c_96
  have c_97 : f_13 97 = ai (ca 0) 200 z0 := by rw [ef_13, mnQ_lo _ _ _ (by omega)]; exact c_97
  have c_98 : f_13 98 = ai (ca 0) 200 z0 := by rw [ef_13, mnQ_lo _ _ _ (by omega)]; exact c_98
  refine x_putF (ci := 4) (C := RX3) (T := TX3) (n := 7) (ref := RX3) (fs' := [.ref (ad 91), .ref (ad 94), .ref (ad 96), .ref (ad 97), .ref (ad 98), .ref (ad 99), .int (nI 0)]) hx hb hts hin_4 tyX3 tyX3_ok nmX3 hown hK dd hw 90 (by omega) c_90 rfl 5 (by decide) hf_37 (fun _ h => h) rfl hnm rfl rfl rfl (Nat.le_of_ble_eq_true rfl) rfl dX3_init_63 (fun H locs hw => ?_)
  obtain ⟨f_14, ef_14⟩ : ∃ z, z = va_up f_13 90 (.inr (4, [.ref (ad 91), .ref (ad 94), .ref (ad 96), .ref (ad 97), .ref (ad 98), .ref (ad 99), .int (nI 0)])) := ⟨_, rfl⟩
  have hw : xw D vwCl 300 ad B s.heap f_14 H locs := by rw [ef_14]; exact hw
  have c_90 : f_14 90 = .inr (4, [.ref (ad 91), .ref (ad 94), .ref (ad 96), .ref (ad 97), .ref (ad 98), .ref (ad 99), .int (nI 0)]) := va_up_of ef_14
  have c_91 : f_14 91 = .inr (2, [.ref (ad 92), .ref (ad 93)]) := by rw [ef_14, va_up_ne _ _ (by decide)]; exact c_91
  have c_92 : f_14 92 = ai (ca 0) 8 z0 := by rw [ef_14, va_up_ne _ _ (by decide)]; exact c_92
  have c_93 : f_14 93 = ai (ca 0) 64 z0 := by rw [ef_14, va_up_ne _ _ (by decide)]; exact c_93
  have c_94 : f_14 94 = .inr (3, [.ref (ad 95), .int (nI 0)]) := by rw [ef_14, va_up_ne _ _ (by decide)]; exact c_94
  have c_95 : f_14 95 = ai (ca 0) 200 z0 := by rw [ef_14, va_up_ne _ _ (by decide)]; exact c_95
  have c_96 : f_14 96 = ai (ca 0) 200 z0 := by rw [ef_14, va_up_ne _ _ (by decide)]; exact c_96
  have c_97 : f_14 97 = ai (ca 0) 200 z0 := by rw [ef_14, va_up_ne _ _ (by decide)]; exact c_97
  have c_98 : f_14 98 = ai (ca 0) 200 z0 := by rw [ef_14, va_up_ne _ _ (by decide)]; exact c_98
  have hw : xw D vwCl 300 ad B s.heap (x3F ca ad f) H locs := by
    refine hw.ext (fun k hk => ?_)
    by_cases k0 : k < 90
    · rw [x3F_lo _ _ _ k0, ef_14, va_up_ne _ _ (by omega), ef_13, mnQ_lo _ _ _ (by omega), ef_12, va_up_ne _ _ (by omega), ef_11, va_up_ne _ _ (by omega), ef_10, va_up_ne _ _ (by omega), ef_9, va_up_ne _ _ (by omega), ef_8, va_up_ne _ _ (by omega), ef_7, va_up_ne _ _ (by omega), ef_6, va_up_ne _ _ (by omega), ef_5, va_up_ne _ _ (by omega), va_up_ne _ _ (by omega), ef_4, va_up_ne _ _ (by omega), ef_3, va_up_ne _ _ (by omega), ef_2, va_up_ne _ _ (by omega), va_up_ne _ _ (by omega), va_up_ne _ _ (by omega), ef_1, va_up_ne _ _ (by omega)]
    by_cases k1 : 100 ≤ k
    · rw [x3F_hi _ _ _ k1, ef_14, va_up_ne _ _ (by omega), ef_13]; exact mnQ_hi _ _ _ (by omega) (by omega)
    have k2 : k = 90 ∨ k = 91 ∨ k = 92 ∨ k = 93 ∨ k = 94 ∨ k = 95 ∨ k = 96 ∨ k = 97 ∨ k = 98 ∨ k = 99 := by omega
    rcases k2 with rfl | rfl | rfl | rfl | rfl | rfl | rfl | rfl | rfl | rfl
    · exact c_90
    · exact c_91
    · exact c_92
    · exact c_93
    · exact c_94
    · exact c_95
    · exact c_96
    · exact c_97
    · exact c_98
    · rw [ef_14, va_up_ne _ _ (by omega), ef_13]; exact mnQ_at _ _ _
  exact x_vret hx hb hr hlocks hw rfl dX3_init_66
