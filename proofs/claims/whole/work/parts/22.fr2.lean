abbrev rmX5_digest : Room := { frames := 3, cells := 0, slots := 0, locals := 76 }

set_option maxHeartbeats 4000000 in
set_option maxRecDepth 100000 in
theorem k_X5_digest_a0 (l : Launch) (D : va_G) (ca : Nat → ClassId) (N : Nat) (ad : Nat → Nat) (B tR tK : Nat) (f : Nat → va_E) (dd : xD N ad B) (hN : 302 ≤ N) (n : Nat → Nat) (g : Nat → Nat → Int32) (z : Nat → Nat → Int32) (zn : Nat) (tb : Nat → Int32) (hR : RepX ca ad n g z zn tb f)  (h4 : n 4 ≤ 200) : xMi l yX5_digest wsX5_digest rmX5_digest [.ref (ad 0), .int (nI 0)] D ca N ad B tR tK f (fun r u => nI 32 = r ∧ ∃ (z1 : Nat → Nat → Int32) (zn1 : Nat), RepX ca ad (va_up n 1 32) (va_up g 1 (sha (n 4) (g 0))) z1 zn1 tb u ∧ ∀ y, 302 ≤ y → u y = f y) := by
  refine x_open (cc := cX5_digest) (maxL := 2) (ret := (some .int)) (by decide) rfl (Nat.le_of_ble_eq_true rfl) ?_
  intro p e s m below meth c ls hx hb hml hown hts hr hlocks hnm hB hK hE hw hl
  have hown : s.vm.findClass RX5 = some m.cls := hown
  have hl : lv_has ls 2 [(0, .ref (ad 0)), (1, .int (nI 0))] := hl
  obtain ⟨c_0, c_1, c_2, c_3, c_4, c_5, c_6, c_7, c_8, c_9, c_90, c_91, c_92, c_93, c_94, c_95, c_96, c_97, c_98, c_99, c_300, c_301, F_kf, F_oc, F_va, F_lw, F_M, hzn, hT⟩ := hR
  have hin_6 : ∀ w ∈ u_ws RX5 TX5 13, w ∈ wsX5_digest := by decide +kernel
  have hf_25 := hts (.fieldLink RX5 25 "FixityRows" "longDigest" "LFixityRows$LongDigest;") (by decide +kernel)
  have hf_39 := hts (.fieldLink RX5 39 "FixityRows" "collected" "LFixityRows$Octets;") (by decide +kernel)
  have hf_43 := hts (.fieldLink RX5 43 "FixityRows" "latestDigest" "[I") (by decide +kernel)
  have hf_83 := hts (.fieldLink RX5 83 "FixityRows" "latestLength" "I") (by decide +kernel)
  have b_0 := c_0
  have b_1 := c_1
  have b_2 := c_2
  have b_3 := c_3
  have b_4 := c_4
  have b_5 := c_5
  have b_6 := c_6
  have b_7 := c_7
  have b_8 := c_8
  have b_9 := c_9
  have b_90 := c_90
  have b_91 := c_91
  have b_92 := c_92
  have b_93 := c_93
  have b_94 := c_94
  have b_95 := c_95
  have b_96 := c_96
  have b_97 := c_97
  have b_98 := c_98
  have b_99 := c_99
  have b_300 := c_300
  have b_301 := c_301
  refine lv_iload_n hx hb dX5_digest_0 rfl (lv_at hl 1 rfl) ?_
  refine lv_if_ne (tgt := 35) hx hb dX5_digest_1 (by decide) (fun h => False.elim (h (by decide))) (fun _ => ?_)
  refine lv_aload_n hx hb dX5_digest_4 rfl (lv_at hl 0 rfl) ?_
  refine x_get (ci := 6) (C := RX5) (T := TX5) (n := 13) (ref := RX5) hx hb hts hin_6 hown hK hw 0 (by omega) c_0 rfl 1 (by decide) hf_25 (fun _ h => h) rfl dX5_digest_5 ?_
  refine lv_aload_n hx hb dX5_digest_8 rfl (lv_at hl 0 rfl) ?_
  refine x_get (ci := 6) (C := RX5) (T := TX5) (n := 13) (ref := RX5) hx hb hts hin_6 hown hK hw 0 (by omega) c_0 rfl 3 (by decide) hf_39 (fun _ h => h) rfl dX5_digest_9 ?_
  refine x_Vv (q := 1) (As := [.ref (ad 6)]) (rest := []) ⟨hx, hb, hml, hown, hts⟩ (k_X1_compute l D ca N ad B tR tK f dd 1 2 3 (z 0) (z 1) 6 7 (n 4) (g 0) (by omega) c_1 (by omega) c_2 (by omega) c_3 (by omega) c_6 (by omega) c_7  (by omega) (by omega) (by omega) (by omega)) (cwV 1 hts gX5_digest_X1_compute rfl rfl rfl (by decide +kernel) ⟨Nat.le_of_ble_eq_true rfl, Nat.le_of_ble_eq_true rfl⟩) hK hE hB hw (by omega) c_1 rfl rfl rfl rfl hl.1 (Nat.le_of_ble_eq_true rfl) ⟨Nat.zero_le _, Nat.zero_le _⟩ dX5_digest_12 (fun f_1 H locs hp hw => ?_)
  obtain ⟨w1_3, e1_4, hq_5, eu⟩ := hp
  have ef_1 : f_1 = va_up (va_up f 3 (ai (ca 0) 64 w1_3)) 2 (ai (ca 0) 8 e1_4) := eu
  have c_3 : f_1 3 = ai (ca 0) 64 w1_3 := by rw [ef_1, va_up_ne _ _ (by decide), va_up_self]
  have c_2 : f_1 2 = ai (ca 0) 8 e1_4 := by rw [ef_1, va_up_self]
  refine lv_aload_n hx hb dX5_digest_15 rfl (lv_at hl 0 rfl) ?_
  have c_0 : f_1 0 = .inr (6, [.int (nI (n 0)), .ref (ad 1), .ref (ad 4), .ref (ad 6), .ref (ad 8), .int (nI (n 1)), .ref (ad 9), .int (nI (n 2)), .ref (ad 90), .ref (ad 300), .ref (ad 301), .int (nI (n 3)), .int (g 13 0)]) := by rw [ef_1, va_up_ne _ _ (by decide), va_up_ne _ _ (by decide)]; exact c_0
  refine x_get (ci := 6) (C := RX5) (T := TX5) (n := 13) (ref := RX5) hx hb hts hin_6 hown hK hw 0 (by omega) c_0 rfl 1 (by decide) hf_25 (fun _ h => h) rfl dX5_digest_16 ?_
  refine lv_aload_n hx hb dX5_digest_19 rfl (lv_at hl 0 rfl) ?_
  refine x_get (ci := 6) (C := RX5) (T := TX5) (n := 13) (ref := RX5) hx hb hts hin_6 hown hK hw 0 (by omega) c_0 rfl 4 (by decide) hf_43 (fun _ h => h) rfl dX5_digest_20 ?_
  have c_1 : f_1 1 = .inr (2, [.ref (ad 2), .ref (ad 3)]) := by rw [ef_1, va_up_ne _ _ (by decide), va_up_ne _ _ (by decide)]; exact c_1
  have c_8 : f_1 8 = ai (ca 0) 8 (g 1) := by rw [ef_1, va_up_ne _ _ (by decide), va_up_ne _ _ (by decide)]; exact c_8
  refine x_Vv (q := 1) (As := [.ref (ad 8)]) (rest := []) ⟨hx, hb, hml, hown, hts⟩ (k_X1_copyTo l D ca N ad B tR tK f_1 dd 1 2 3 e1_4 8 (g 1) (by omega) c_1 (by omega) c_2 (by omega) c_8  (by omega)) (cwV 1 hts gX5_digest_X1_copyTo rfl rfl rfl (by decide +kernel) ⟨Nat.le_of_ble_eq_true rfl, Nat.le_of_ble_eq_true rfl⟩) hK hE hB hw (by omega) c_1 rfl rfl rfl rfl hl.1 (Nat.le_of_ble_eq_true rfl) ⟨Nat.zero_le _, Nat.zero_le _⟩ dX5_digest_23 (fun f_6 H locs hp hw => ?_)
  have eu := hp
  have ef_6 : f_6 = va_up f_1 8 (ai (ca 0) 8 (cpyTo (g 1) e1_4 8)) := eu
  have c_8 : f_6 8 = ai (ca 0) 8 (cpyTo (g 1) e1_4 8) := by rw [ef_6, va_up_self]
  obtain ⟨f_8, ef_8⟩ : ∃ z, z = va_up f_1 8 (ai (ca 0) 8 (sha (n 4) (g 0))) := ⟨_, rfl⟩
  have hw : xw D vwCl N ad B s.heap f_8 H locs := by rw [ef_8]; exact xw.arr (by rw [← ef_6]; exact hw) (fun j hj => by rw [cp_in hj, hq_5 j hj])
  have c_8 : f_8 8 = ai (ca 0) 8 (sha (n 4) (g 0)) := va_up_of ef_8
  refine lv_aload_n hx hb dX5_digest_26 rfl (lv_at hl 0 rfl) ?_
  refine lv_bipush (v := nI 32) hx hb dX5_digest_27 (by decide) ?_
  have c_0 : f_8 0 = .inr (6, [.int (nI (n 0)), .ref (ad 1), .ref (ad 4), .ref (ad 6), .ref (ad 8), .int (nI (n 1)), .ref (ad 9), .int (nI (n 2)), .ref (ad 90), .ref (ad 300), .ref (ad 301), .int (nI (n 3)), .int (g 13 0)]) := by rw [ef_8, va_up_ne _ _ (by decide)]; exact c_0
  refine x_put (ci := 6) (C := RX5) (T := TX5) (n := 13) (ref := RX5) (fs' := [.int (nI (n 0)), .ref (ad 1), .ref (ad 4), .ref (ad 6), .ref (ad 8), .int (nI 32), .ref (ad 9), .int (nI (n 2)), .ref (ad 90), .ref (ad 300), .ref (ad 301), .int (nI (n 3)), .int (g 13 0)]) hx hb hts hin_6 tyX5 tyX5_ok nmX5 hown hK dd hw 0 (by omega) c_0 rfl 5 (by decide) hf_83 (fun _ h => h) rfl rfl rfl (Nat.le_of_ble_eq_true rfl) rfl dX5_digest_29 (fun H locs hw => ?_)
  obtain ⟨f_9, ef_9⟩ : ∃ z, z = va_up f_8 0 (.inr (6, [.int (nI (n 0)), .ref (ad 1), .ref (ad 4), .ref (ad 6), .ref (ad 8), .int (nI 32), .ref (ad 9), .int (nI (n 2)), .ref (ad 90), .ref (ad 300), .ref (ad 301), .int (nI (n 3)), .int (g 13 0)])) := ⟨_, rfl⟩
  have hw : xw D vwCl N ad B s.heap f_9 H locs := by rw [ef_9]; exact hw
  have c_0 : f_9 0 = .inr (6, [.int (nI (n 0)), .ref (ad 1), .ref (ad 4), .ref (ad 6), .ref (ad 8), .int (nI 32), .ref (ad 9), .int (nI (n 2)), .ref (ad 90), .ref (ad 300), .ref (ad 301), .int (nI (n 3)), .int (g 13 0)]) := va_up_of ef_9
  refine lv_bipush (v := nI 32) hx hb dX5_digest_32 (by decide) ?_
  have c_1 : f_9 1 = .inr (2, [.ref (ad 2), .ref (ad 3)]) := by rw [ef_9, va_up_ne _ _ (by decide), ef_8, va_up_ne _ _ (by decide)]; exact c_1
  have c_2 : f_9 2 = ai (ca 0) 8 e1_4 := by rw [ef_9, va_up_ne _ _ (by decide), ef_8, va_up_ne _ _ (by decide)]; exact c_2
  have c_3 : f_9 3 = ai (ca 0) 64 w1_3 := by rw [ef_9, va_up_ne _ _ (by decide), ef_8, va_up_ne _ _ (by decide)]; exact c_3
  have c_4 : f_9 4 = .inr (5, [.ref (ad 5)]) := by rw [ef_9, va_up_ne _ _ (by decide), ef_8, va_up_ne _ _ (by decide), ef_1, va_up_ne _ _ (by decide), va_up_ne _ _ (by decide)]; exact c_4
  have c_5 : f_9 5 = ai (ca 0) 256 tb := by rw [ef_9, va_up_ne _ _ (by decide), ef_8, va_up_ne _ _ (by decide), ef_1, va_up_ne _ _ (by decide), va_up_ne _ _ (by decide)]; exact c_5
  have c_6 : f_9 6 = .inr (3, [.ref (ad 7), .int (nI (n 4))]) := by rw [ef_9, va_up_ne _ _ (by decide), ef_8, va_up_ne _ _ (by decide), ef_1, va_up_ne _ _ (by decide), va_up_ne _ _ (by decide)]; exact c_6
  have c_7 : f_9 7 = ai (ca 0) 200 (g 0) := by rw [ef_9, va_up_ne _ _ (by decide), ef_8, va_up_ne _ _ (by decide), ef_1, va_up_ne _ _ (by decide), va_up_ne _ _ (by decide)]; exact c_7
  have c_8 : f_9 8 = ai (ca 0) 8 (sha (n 4) (g 0)) := by rw [ef_9, va_up_ne _ _ (by decide)]; exact c_8
  have c_9 : f_9 9 = aq (ca 3) 20 (fun i => some (ad (10 + 4 * i))) := by rw [ef_9, va_up_ne _ _ (by decide), ef_8, va_up_ne _ _ (by decide), ef_1, va_up_ne _ _ (by decide), va_up_ne _ _ (by decide)]; exact c_9
  have c_90 : f_9 90 = .inr (4, [.ref (ad 91), .ref (ad 94), .ref (ad 96), .ref (ad 97), .ref (ad 98), .ref (ad 99), .int (nI (n 5))]) := by rw [ef_9, va_up_ne _ _ (by decide), ef_8, va_up_ne _ _ (by decide), ef_1, va_up_ne _ _ (by decide), va_up_ne _ _ (by decide)]; exact c_90
  have c_91 : f_9 91 = .inr (2, [.ref (ad 92), .ref (ad 93)]) := by rw [ef_9, va_up_ne _ _ (by decide), ef_8, va_up_ne _ _ (by decide), ef_1, va_up_ne _ _ (by decide), va_up_ne _ _ (by decide)]; exact c_91
  have c_92 : f_9 92 = ai (ca 0) 8 (z 2) := by rw [ef_9, va_up_ne _ _ (by decide), ef_8, va_up_ne _ _ (by decide), ef_1, va_up_ne _ _ (by decide), va_up_ne _ _ (by decide)]; exact c_92
  have c_93 : f_9 93 = ai (ca 0) 64 (z 3) := by rw [ef_9, va_up_ne _ _ (by decide), ef_8, va_up_ne _ _ (by decide), ef_1, va_up_ne _ _ (by decide), va_up_ne _ _ (by decide)]; exact c_93
  have c_94 : f_9 94 = .inr (3, [.ref (ad 95), .int (nI zn)]) := by rw [ef_9, va_up_ne _ _ (by decide), ef_8, va_up_ne _ _ (by decide), ef_1, va_up_ne _ _ (by decide), va_up_ne _ _ (by decide)]; exact c_94
  have c_95 : f_9 95 = ai (ca 0) 200 (z 4) := by rw [ef_9, va_up_ne _ _ (by decide), ef_8, va_up_ne _ _ (by decide), ef_1, va_up_ne _ _ (by decide), va_up_ne _ _ (by decide)]; exact c_95
  have c_96 : f_9 96 = ai (ca 0) 200 (g 4) := by rw [ef_9, va_up_ne _ _ (by decide), ef_8, va_up_ne _ _ (by decide), ef_1, va_up_ne _ _ (by decide), va_up_ne _ _ (by decide)]; exact c_96
  have c_97 : f_9 97 = ai (ca 0) 200 (g 5) := by rw [ef_9, va_up_ne _ _ (by decide), ef_8, va_up_ne _ _ (by decide), ef_1, va_up_ne _ _ (by decide), va_up_ne _ _ (by decide)]; exact c_97
  have c_98 : f_9 98 = ai (ca 0) 200 (g 6) := by rw [ef_9, va_up_ne _ _ (by decide), ef_8, va_up_ne _ _ (by decide), ef_1, va_up_ne _ _ (by decide), va_up_ne _ _ (by decide)]; exact c_98
  have c_99 : f_9 99 = aq (ca 4) 200 (fun i => some (ad (100 + i))) := by rw [ef_9, va_up_ne _ _ (by decide), ef_8, va_up_ne _ _ (by decide), ef_1, va_up_ne _ _ (by decide), va_up_ne _ _ (by decide)]; exact c_99
  have c_300 : f_9 300 = ai (ca 0) 20 (g 2) := by rw [ef_9, va_up_ne _ _ (by decide), ef_8, va_up_ne _ _ (by decide), ef_1, va_up_ne _ _ (by decide), va_up_ne _ _ (by decide)]; exact c_300
  have c_301 : f_9 301 = ai (ca 2) 20 (g 3) := by rw [ef_9, va_up_ne _ _ (by decide), ef_8, va_up_ne _ _ (by decide), ef_1, va_up_ne _ _ (by decide), va_up_ne _ _ (by decide)]; exact c_301
  have qn_0 : (va_up n 1 32) 0 = n 0 := by rw [va_up_ne _ _ (by decide)]
  have qn_1 : (va_up n 1 32) 1 = 32 := by rw [va_up_self]
  have qn_2 : (va_up n 1 32) 2 = n 2 := by rw [va_up_ne _ _ (by decide)]
  have qn_3 : (va_up n 1 32) 3 = n 3 := by rw [va_up_ne _ _ (by decide)]
  have qn_4 : (va_up n 1 32) 4 = n 4 := by rw [va_up_ne _ _ (by decide)]
  have qn_5 : (va_up n 1 32) 5 = n 5 := by rw [va_up_ne _ _ (by decide)]
  have qg_0 : (va_up g 1 (sha (n 4) (g 0))) 0 = g 0 := by rw [va_up_ne _ _ (by decide)]
  have qg_1 : (va_up g 1 (sha (n 4) (g 0))) 1 = sha (n 4) (g 0) := by rw [va_up_self]
  have qg_2 : (va_up g 1 (sha (n 4) (g 0))) 2 = g 2 := by rw [va_up_ne _ _ (by decide)]
  have qg_3 : (va_up g 1 (sha (n 4) (g 0))) 3 = g 3 := by rw [va_up_ne _ _ (by decide)]
  have qg_4 : (va_up g 1 (sha (n 4) (g 0))) 4 = g 4 := by rw [va_up_ne _ _ (by decide)]
  have qg_5 : (va_up g 1 (sha (n 4) (g 0))) 5 = g 5 := by rw [va_up_ne _ _ (by decide)]
  have qg_6 : (va_up g 1 (sha (n 4) (g 0))) 6 = g 6 := by rw [va_up_ne _ _ (by decide)]
  have qg_7 : (va_up g 1 (sha (n 4) (g 0))) 7 = g 7 := by rw [va_up_ne _ _ (by decide)]
  have qg_8 : (va_up g 1 (sha (n 4) (g 0))) 8 = g 8 := by rw [va_up_ne _ _ (by decide)]
  have qg_9 : (va_up g 1 (sha (n 4) (g 0))) 9 = g 9 := by rw [va_up_ne _ _ (by decide)]
  have qg_10 : (va_up g 1 (sha (n 4) (g 0))) 10 = g 10 := by rw [va_up_ne _ _ (by decide)]
  have qg_11 : (va_up g 1 (sha (n 4) (g 0))) 11 = g 11 := by rw [va_up_ne _ _ (by decide)]
  have qg_12 : (va_up g 1 (sha (n 4) (g 0))) 12 = g 12 := by rw [va_up_ne _ _ (by decide)]
  have qg_13 : (va_up g 1 (sha (n 4) (g 0))) 13 = g 13 := by rw [va_up_ne _ _ (by decide)]
  have qz_0 : (va_up (va_up z 0 e1_4) 1 w1_3) 0 = e1_4 := by rw [va_up_ne _ _ (by decide), va_up_self]
  have qz_1 : (va_up (va_up z 0 e1_4) 1 w1_3) 1 = w1_3 := by rw [va_up_self]
  have qz_2 : (va_up (va_up z 0 e1_4) 1 w1_3) 2 = z 2 := by rw [va_up_ne _ _ (by decide), va_up_ne _ _ (by decide)]
  have qz_3 : (va_up (va_up z 0 e1_4) 1 w1_3) 3 = z 3 := by rw [va_up_ne _ _ (by decide), va_up_ne _ _ (by decide)]
  have qz_4 : (va_up (va_up z 0 e1_4) 1 w1_3) 4 = z 4 := by rw [va_up_ne _ _ (by decide), va_up_ne _ _ (by decide)]
  have hRz : RepX ca ad (va_up n 1 32) (va_up g 1 (sha (n 4) (g 0))) (va_up (va_up z 0 e1_4) 1 w1_3) zn tb f_9 := ⟨(by rw [qn_0, qn_1, qn_2, qn_3, qg_13]; exact c_0),
        c_1,
        (by rw [qz_0]; exact c_2),
        (by rw [qz_1]; exact c_3),
        c_4,
        c_5,
        (by rw [qn_4]; exact c_6),
        (by rw [qg_0]; exact c_7),
        (by rw [qg_1]; exact c_8),
        c_9,
        (by rw [qn_5]; exact c_90),
        c_91,
        (by rw [qz_2]; exact c_92),
        (by rw [qz_3]; exact c_93),
        c_94,
        (by rw [qz_4]; exact c_95),
        (by rw [qg_4]; exact c_96),
        (by rw [qg_5]; exact c_97),
        (by rw [qg_6]; exact c_98),
        c_99,
        (by rw [qg_2]; exact c_300),
        (by rw [qg_3]; exact c_301),
        (fun i9 hi9 => by rw [qg_7, qg_8, qg_9, qg_10, qg_11, qg_12]; rw [ef_9, va_up_ne _ _ (by omega), ef_8, va_up_ne _ _ (by omega), ef_1, va_up_ne _ _ (by omega), va_up_ne _ _ (by omega)]; exact F_kf i9 hi9),
        (fun i9 hi9 => by rw [va_up_ne _ _ (by omega)]; rw [ef_9, va_up_ne _ _ (by omega), ef_8, va_up_ne _ _ (by omega), ef_1, va_up_ne _ _ (by omega), va_up_ne _ _ (by omega)]; exact F_oc i9 hi9),
        (fun i9 hi9 => by rw [va_up_ne _ _ (by omega)]; rw [ef_9, va_up_ne _ _ (by omega), ef_8, va_up_ne _ _ (by omega), ef_1, va_up_ne _ _ (by omega), va_up_ne _ _ (by omega)]; exact F_va i9 hi9),
        (fun i9 hi9 => by rw [va_up_ne _ _ (by omega)]; rw [ef_9, va_up_ne _ _ (by omega), ef_8, va_up_ne _ _ (by omega), ef_1, va_up_ne _ _ (by omega), va_up_ne _ _ (by omega)]; exact F_lw i9 hi9),
        (fun i9 hi9 => by rw [va_up_ne _ _ (by omega)]; rw [ef_9, va_up_ne _ _ (by omega), ef_8, va_up_ne _ _ (by omega), ef_1, va_up_ne _ _ (by omega), va_up_ne _ _ (by omega)]; exact F_M i9 hi9), hzn, hT⟩
  exact x_iret hx hb hr hlocks hw ⟨rfl, va_up (va_up z 0 e1_4) 1 w1_3, zn, hRz, (fun y hy => by rw [ef_9, va_up_ne _ _ (by omega), ef_8, va_up_ne _ _ (by omega), ef_1, va_up_ne _ _ (by omega), va_up_ne _ _ (by omega)])⟩ dX5_digest_34

set_option maxHeartbeats 4000000 in
set_option maxRecDepth 100000 in
theorem k_X5_digest_a1 (l : Launch) (D : va_G) (ca : Nat → ClassId) (N : Nat) (ad : Nat → Nat) (B tR tK : Nat) (f : Nat → va_E) (dd : xD N ad B) (hN : 302 ≤ N) (n : Nat → Nat) (g : Nat → Nat → Int32) (z : Nat → Nat → Int32) (zn : Nat) (tb : Nat → Int32) (hR : RepX ca ad n g z zn tb f)  (h4 : n 4 ≤ 200) : xMi l yX5_digest wsX5_digest rmX5_digest [.ref (ad 0), .int (nI 1)] D ca N ad B tR tK f (fun r u => nI 4 = r ∧ ∃ (z1 : Nat → Nat → Int32) (zn1 : Nat), RepX ca ad (va_up n 1 4) (va_up g 1 (upd (g 1) 0 (crc (n 4) (g 0)))) z1 zn1 tb u ∧ ∀ y, 302 ≤ y → u y = f y) := by
  refine x_open (cc := cX5_digest) (maxL := 2) (ret := (some .int)) (by decide) rfl (Nat.le_of_ble_eq_true rfl) ?_
  intro p e s m below meth c ls hx hb hml hown hts hr hlocks hnm hB hK hE hw hl
  have hown : s.vm.findClass RX5 = some m.cls := hown
  have hl : lv_has ls 2 [(0, .ref (ad 0)), (1, .int (nI 1))] := hl
  obtain ⟨c_0, c_1, c_2, c_3, c_4, c_5, c_6, c_7, c_8, c_9, c_90, c_91, c_92, c_93, c_94, c_95, c_96, c_97, c_98, c_99, c_300, c_301, F_kf, F_oc, F_va, F_lw, F_M, hzn, hT⟩ := hR
  have hin_6 : ∀ w ∈ u_ws RX5 TX5 13, w ∈ wsX5_digest := by decide +kernel
  have hf_43 := hts (.fieldLink RX5 43 "FixityRows" "latestDigest" "[I") (by decide +kernel)
  have hf_32 := hts (.fieldLink RX5 32 "FixityRows" "shortDigest" "LFixityRows$ShortDigest;") (by decide +kernel)
  have hf_39 := hts (.fieldLink RX5 39 "FixityRows" "collected" "LFixityRows$Octets;") (by decide +kernel)
  have hf_83 := hts (.fieldLink RX5 83 "FixityRows" "latestLength" "I") (by decide +kernel)
  have b_0 := c_0
  have b_1 := c_1
  have b_2 := c_2
  have b_3 := c_3
  have b_4 := c_4
  have b_5 := c_5
  have b_6 := c_6
  have b_7 := c_7
  have b_8 := c_8
  have b_9 := c_9
  have b_90 := c_90
  have b_91 := c_91
  have b_92 := c_92
  have b_93 := c_93
  have b_94 := c_94
  have b_95 := c_95
  have b_96 := c_96
  have b_97 := c_97
  have b_98 := c_98
  have b_99 := c_99
  have b_300 := c_300
  have b_301 := c_301
  refine lv_iload_n hx hb dX5_digest_0 rfl (lv_at hl 1 rfl) ?_
  refine lv_if_ne (tgt := 35) hx hb dX5_digest_1 (by decide) (fun _ => ?_) (fun h => absurd h (by decide))
  refine lv_iload_n hx hb dX5_digest_35 rfl (lv_at hl 1 rfl) ?_
  refine lv_iconst (v := nI 1) hx hb dX5_digest_36 (by decide) ?_
  refine n_icne (tgt := 64) hx hb dX5_digest_37 (by decide) (by omega) (by omega) (fun hc_37 => ?_) (fun hc_37 => ?_)
  · omega
  · refine lv_aload_n hx hb dX5_digest_40 rfl (lv_at hl 0 rfl) ?_
    refine x_get (ci := 6) (C := RX5) (T := TX5) (n := 13) (ref := RX5) hx hb hts hin_6 hown hK hw 0 (by omega) c_0 rfl 4 (by decide) hf_43 (fun _ h => h) rfl dX5_digest_41 ?_
    refine lv_iconst (v := nI 0) hx hb dX5_digest_44 (by decide) ?_
    refine lv_aload_n hx hb dX5_digest_45 rfl (lv_at hl 0 rfl) ?_
    refine x_get (ci := 6) (C := RX5) (T := TX5) (n := 13) (ref := RX5) hx hb hts hin_6 hown hK hw 0 (by omega) c_0 rfl 2 (by decide) hf_32 (fun _ h => h) rfl dX5_digest_46 ?_
    refine lv_aload_n hx hb dX5_digest_49 rfl (lv_at hl 0 rfl) ?_
    refine x_get (ci := 6) (C := RX5) (T := TX5) (n := 13) (ref := RX5) hx hb hts hin_6 hown hK hw 0 (by omega) c_0 rfl 3 (by decide) hf_39 (fun _ h => h) rfl dX5_digest_50 ?_
    refine x_Vi (q := 4) (As := [.ref (ad 6)]) (rest := [.int (nI 0), .ref (ad 8)]) ⟨hx, hb, hml, hown, hts⟩ (k_X4_compute l D ca N ad B tR tK f dd 4 5 tb 6 7 (n 4) (g 0) (by omega) c_4 (by omega) c_5 (by omega) c_6 (by omega) c_7  (by omega) hT) (cwV 1 hts gX5_digest_X4_compute rfl rfl rfl (by decide +kernel) ⟨Nat.le_of_ble_eq_true rfl, Nat.le_of_ble_eq_true rfl⟩) hK hE hB hw (by omega) c_4 rfl rfl rfl rfl hl.1 (Nat.le_of_ble_eq_true rfl) ⟨Nat.zero_le _, Nat.zero_le _⟩ dX5_digest_53 (fun r_2 f_1 H locs hp hw => ?_)
    obtain ⟨er, eu⟩ := hp
    rw [← er]
    rw [← eu] at hw
    refine lv_topi (fun x_3 ex_3 => ?_)
    refine x_iast (j := 0) hx hb hK dd hw 8 0 (by omega) c_8 rfl rfl (by omega) (by decide) dX5_digest_56 (fun H locs hw => ?_)
    obtain ⟨f_4, ef_4⟩ : ∃ z, z = va_up f 8 (ai (ca 0) 8 (upd (g 1) 0 x_3)) := ⟨_, rfl⟩
    have hw : xw D vwCl N ad B s.heap f_4 H locs := by rw [ef_4]; exact hw
    have c_8 : f_4 8 = ai (ca 0) 8 (upd (g 1) 0 x_3) := va_up_of ef_4
    refine lv_aload_n hx hb dX5_digest_57 rfl (lv_at hl 0 rfl) ?_
    refine lv_iconst (v := nI 4) hx hb dX5_digest_58 (by decide) ?_
    have c_0 : f_4 0 = .inr (6, [.int (nI (n 0)), .ref (ad 1), .ref (ad 4), .ref (ad 6), .ref (ad 8), .int (nI (n 1)), .ref (ad 9), .int (nI (n 2)), .ref (ad 90), .ref (ad 300), .ref (ad 301), .int (nI (n 3)), .int (g 13 0)]) := by rw [ef_4, va_up_ne _ _ (by decide)]; exact c_0
    refine x_put (ci := 6) (C := RX5) (T := TX5) (n := 13) (ref := RX5) (fs' := [.int (nI (n 0)), .ref (ad 1), .ref (ad 4), .ref (ad 6), .ref (ad 8), .int (nI 4), .ref (ad 9), .int (nI (n 2)), .ref (ad 90), .ref (ad 300), .ref (ad 301), .int (nI (n 3)), .int (g 13 0)]) hx hb hts hin_6 tyX5 tyX5_ok nmX5 hown hK dd hw 0 (by omega) c_0 rfl 5 (by decide) hf_83 (fun _ h => h) rfl rfl rfl (Nat.le_of_ble_eq_true rfl) rfl dX5_digest_59 (fun H locs hw => ?_)
    obtain ⟨f_5, ef_5⟩ : ∃ z, z = va_up f_4 0 (.inr (6, [.int (nI (n 0)), .ref (ad 1), .ref (ad 4), .ref (ad 6), .ref (ad 8), .int (nI 4), .ref (ad 9), .int (nI (n 2)), .ref (ad 90), .ref (ad 300), .ref (ad 301), .int (nI (n 3)), .int (g 13 0)])) := ⟨_, rfl⟩
    have hw : xw D vwCl N ad B s.heap f_5 H locs := by rw [ef_5]; exact hw
    have c_0 : f_5 0 = .inr (6, [.int (nI (n 0)), .ref (ad 1), .ref (ad 4), .ref (ad 6), .ref (ad 8), .int (nI 4), .ref (ad 9), .int (nI (n 2)), .ref (ad 90), .ref (ad 300), .ref (ad 301), .int (nI (n 3)), .int (g 13 0)]) := va_up_of ef_5
    refine lv_iconst (v := nI 4) hx hb dX5_digest_62 (by decide) ?_
    have c_1 : f_5 1 = .inr (2, [.ref (ad 2), .ref (ad 3)]) := by rw [ef_5, va_up_ne _ _ (by decide), ef_4, va_up_ne _ _ (by decide)]; exact c_1
    have c_2 : f_5 2 = ai (ca 0) 8 (z 0) := by rw [ef_5, va_up_ne _ _ (by decide), ef_4, va_up_ne _ _ (by decide)]; exact c_2
    have c_3 : f_5 3 = ai (ca 0) 64 (z 1) := by rw [ef_5, va_up_ne _ _ (by decide), ef_4, va_up_ne _ _ (by decide)]; exact c_3
    have c_4 : f_5 4 = .inr (5, [.ref (ad 5)]) := by rw [ef_5, va_up_ne _ _ (by decide), ef_4, va_up_ne _ _ (by decide)]; exact c_4
    have c_5 : f_5 5 = ai (ca 0) 256 tb := by rw [ef_5, va_up_ne _ _ (by decide), ef_4, va_up_ne _ _ (by decide)]; exact c_5
    have c_6 : f_5 6 = .inr (3, [.ref (ad 7), .int (nI (n 4))]) := by rw [ef_5, va_up_ne _ _ (by decide), ef_4, va_up_ne _ _ (by decide)]; exact c_6
    have c_7 : f_5 7 = ai (ca 0) 200 (g 0) := by rw [ef_5, va_up_ne _ _ (by decide), ef_4, va_up_ne _ _ (by decide)]; exact c_7
    have c_8 : f_5 8 = ai (ca 0) 8 (upd (g 1) 0 x_3) := by rw [ef_5, va_up_ne _ _ (by decide)]; exact c_8
    have c_9 : f_5 9 = aq (ca 3) 20 (fun i => some (ad (10 + 4 * i))) := by rw [ef_5, va_up_ne _ _ (by decide), ef_4, va_up_ne _ _ (by decide)]; exact c_9
    have c_90 : f_5 90 = .inr (4, [.ref (ad 91), .ref (ad 94), .ref (ad 96), .ref (ad 97), .ref (ad 98), .ref (ad 99), .int (nI (n 5))]) := by rw [ef_5, va_up_ne _ _ (by decide), ef_4, va_up_ne _ _ (by decide)]; exact c_90
    have c_91 : f_5 91 = .inr (2, [.ref (ad 92), .ref (ad 93)]) := by rw [ef_5, va_up_ne _ _ (by decide), ef_4, va_up_ne _ _ (by decide)]; exact c_91
    have c_92 : f_5 92 = ai (ca 0) 8 (z 2) := by rw [ef_5, va_up_ne _ _ (by decide), ef_4, va_up_ne _ _ (by decide)]; exact c_92
    have c_93 : f_5 93 = ai (ca 0) 64 (z 3) := by rw [ef_5, va_up_ne _ _ (by decide), ef_4, va_up_ne _ _ (by decide)]; exact c_93
    have c_94 : f_5 94 = .inr (3, [.ref (ad 95), .int (nI zn)]) := by rw [ef_5, va_up_ne _ _ (by decide), ef_4, va_up_ne _ _ (by decide)]; exact c_94
    have c_95 : f_5 95 = ai (ca 0) 200 (z 4) := by rw [ef_5, va_up_ne _ _ (by decide), ef_4, va_up_ne _ _ (by decide)]; exact c_95
    have c_96 : f_5 96 = ai (ca 0) 200 (g 4) := by rw [ef_5, va_up_ne _ _ (by decide), ef_4, va_up_ne _ _ (by decide)]; exact c_96
    have c_97 : f_5 97 = ai (ca 0) 200 (g 5) := by rw [ef_5, va_up_ne _ _ (by decide), ef_4, va_up_ne _ _ (by decide)]; exact c_97
    have c_98 : f_5 98 = ai (ca 0) 200 (g 6) := by rw [ef_5, va_up_ne _ _ (by decide), ef_4, va_up_ne _ _ (by decide)]; exact c_98
    have c_99 : f_5 99 = aq (ca 4) 200 (fun i => some (ad (100 + i))) := by rw [ef_5, va_up_ne _ _ (by decide), ef_4, va_up_ne _ _ (by decide)]; exact c_99
    have c_300 : f_5 300 = ai (ca 0) 20 (g 2) := by rw [ef_5, va_up_ne _ _ (by decide), ef_4, va_up_ne _ _ (by decide)]; exact c_300
    have c_301 : f_5 301 = ai (ca 2) 20 (g 3) := by rw [ef_5, va_up_ne _ _ (by decide), ef_4, va_up_ne _ _ (by decide)]; exact c_301
    have c_8 : f_5 8 = ai (ca 0) 8 (upd (g 1) 0 (crc (n 4) (g 0))) := by rw [c_8]; simp only [ex_3]
    have qn_0 : (va_up n 1 4) 0 = n 0 := by rw [va_up_ne _ _ (by decide)]
    have qn_1 : (va_up n 1 4) 1 = 4 := by rw [va_up_self]
    have qn_2 : (va_up n 1 4) 2 = n 2 := by rw [va_up_ne _ _ (by decide)]
    have qn_3 : (va_up n 1 4) 3 = n 3 := by rw [va_up_ne _ _ (by decide)]
    have qn_4 : (va_up n 1 4) 4 = n 4 := by rw [va_up_ne _ _ (by decide)]
    have qn_5 : (va_up n 1 4) 5 = n 5 := by rw [va_up_ne _ _ (by decide)]
    have qg_0 : (va_up g 1 (upd (g 1) 0 (crc (n 4) (g 0)))) 0 = g 0 := by rw [va_up_ne _ _ (by decide)]
    have qg_1 : (va_up g 1 (upd (g 1) 0 (crc (n 4) (g 0)))) 1 = upd (g 1) 0 (crc (n 4) (g 0)) := by rw [va_up_self]
    have qg_2 : (va_up g 1 (upd (g 1) 0 (crc (n 4) (g 0)))) 2 = g 2 := by rw [va_up_ne _ _ (by decide)]
    have qg_3 : (va_up g 1 (upd (g 1) 0 (crc (n 4) (g 0)))) 3 = g 3 := by rw [va_up_ne _ _ (by decide)]
    have qg_4 : (va_up g 1 (upd (g 1) 0 (crc (n 4) (g 0)))) 4 = g 4 := by rw [va_up_ne _ _ (by decide)]
    have qg_5 : (va_up g 1 (upd (g 1) 0 (crc (n 4) (g 0)))) 5 = g 5 := by rw [va_up_ne _ _ (by decide)]
    have qg_6 : (va_up g 1 (upd (g 1) 0 (crc (n 4) (g 0)))) 6 = g 6 := by rw [va_up_ne _ _ (by decide)]
    have qg_7 : (va_up g 1 (upd (g 1) 0 (crc (n 4) (g 0)))) 7 = g 7 := by rw [va_up_ne _ _ (by decide)]
    have qg_8 : (va_up g 1 (upd (g 1) 0 (crc (n 4) (g 0)))) 8 = g 8 := by rw [va_up_ne _ _ (by decide)]
    have qg_9 : (va_up g 1 (upd (g 1) 0 (crc (n 4) (g 0)))) 9 = g 9 := by rw [va_up_ne _ _ (by decide)]
    have qg_10 : (va_up g 1 (upd (g 1) 0 (crc (n 4) (g 0)))) 10 = g 10 := by rw [va_up_ne _ _ (by decide)]
    have qg_11 : (va_up g 1 (upd (g 1) 0 (crc (n 4) (g 0)))) 11 = g 11 := by rw [va_up_ne _ _ (by decide)]
    have qg_12 : (va_up g 1 (upd (g 1) 0 (crc (n 4) (g 0)))) 12 = g 12 := by rw [va_up_ne _ _ (by decide)]
    have qg_13 : (va_up g 1 (upd (g 1) 0 (crc (n 4) (g 0)))) 13 = g 13 := by rw [va_up_ne _ _ (by decide)]
    have hRz : RepX ca ad (va_up n 1 4) (va_up g 1 (upd (g 1) 0 (crc (n 4) (g 0)))) z zn tb f_5 := ⟨(by rw [qn_0, qn_1, qn_2, qn_3, qg_13]; exact c_0),
          c_1,
          c_2,
          c_3,
          c_4,
          c_5,
          (by rw [qn_4]; exact c_6),
          (by rw [qg_0]; exact c_7),
          (by rw [qg_1]; exact c_8),
          c_9,
          (by rw [qn_5]; exact c_90),
          c_91,
          c_92,
          c_93,
          c_94,
          c_95,
          (by rw [qg_4]; exact c_96),
          (by rw [qg_5]; exact c_97),
          (by rw [qg_6]; exact c_98),
          c_99,
          (by rw [qg_2]; exact c_300),
          (by rw [qg_3]; exact c_301),
          (fun i9 hi9 => by rw [qg_7, qg_8, qg_9, qg_10, qg_11, qg_12]; rw [ef_5, va_up_ne _ _ (by omega), ef_4, va_up_ne _ _ (by omega)]; exact F_kf i9 hi9),
          (fun i9 hi9 => by rw [va_up_ne _ _ (by omega)]; rw [ef_5, va_up_ne _ _ (by omega), ef_4, va_up_ne _ _ (by omega)]; exact F_oc i9 hi9),
          (fun i9 hi9 => by rw [va_up_ne _ _ (by omega)]; rw [ef_5, va_up_ne _ _ (by omega), ef_4, va_up_ne _ _ (by omega)]; exact F_va i9 hi9),
          (fun i9 hi9 => by rw [va_up_ne _ _ (by omega)]; rw [ef_5, va_up_ne _ _ (by omega), ef_4, va_up_ne _ _ (by omega)]; exact F_lw i9 hi9),
          (fun i9 hi9 => by rw [va_up_ne _ _ (by omega)]; rw [ef_5, va_up_ne _ _ (by omega), ef_4, va_up_ne _ _ (by omega)]; exact F_M i9 hi9), hzn, hT⟩
    exact x_iret hx hb hr hlocks hw ⟨rfl, z, zn, hRz, (fun y hy => by rw [ef_5, va_up_ne _ _ (by omega), ef_4, va_up_ne _ _ (by omega)])⟩ dX5_digest_63

set_option maxHeartbeats 4000000 in
set_option maxRecDepth 100000 in
theorem k_X5_digest_no (l : Launch) (D : va_G) (ca : Nat → ClassId) (N : Nat) (ad : Nat → Nat) (B tR tK : Nat) (f : Nat → va_E) (dd : xD N ad B) (hN : 302 ≤ N) (n : Nat → Nat) (g : Nat → Nat → Int32) (z : Nat → Nat → Int32) (zn : Nat) (tb : Nat → Int32) (hR : RepX ca ad n g z zn tb f) (x : Int32) (h0 : ¬ x = 0) (h1 : ¬ x = nI 1) : xMi l yX5_digest wsX5_digest rmX5_digest [.ref (ad 0), .int x] D ca N ad B tR tK f (fun r u => (-2) = r ∧ ∃ (z1 : Nat → Nat → Int32) (zn1 : Nat), RepX ca ad n g z1 zn1 tb u ∧ ∀ y, 302 ≤ y → u y = f y) := by
  refine x_open (cc := cX5_digest) (maxL := 2) (ret := (some .int)) (by decide) rfl (Nat.le_of_ble_eq_true rfl) ?_
  intro p e s m below meth c ls hx hb hml hown hts hr hlocks hnm hB hK hE hw hl
  have hown : s.vm.findClass RX5 = some m.cls := hown
  have hl : lv_has ls 2 [(0, .ref (ad 0)), (1, .int x)] := hl
  obtain ⟨c_0, c_1, c_2, c_3, c_4, c_5, c_6, c_7, c_8, c_9, c_90, c_91, c_92, c_93, c_94, c_95, c_96, c_97, c_98, c_99, c_300, c_301, F_kf, F_oc, F_va, F_lw, F_M, hzn, hT⟩ := hR
  have b_0 := c_0
  have b_1 := c_1
  have b_2 := c_2
  have b_3 := c_3
  have b_4 := c_4
  have b_5 := c_5
  have b_6 := c_6
  have b_7 := c_7
  have b_8 := c_8
  have b_9 := c_9
  have b_90 := c_90
  have b_91 := c_91
  have b_92 := c_92
  have b_93 := c_93
  have b_94 := c_94
  have b_95 := c_95
  have b_96 := c_96
  have b_97 := c_97
  have b_98 := c_98
  have b_99 := c_99
  have b_300 := c_300
  have b_301 := c_301
  refine lv_iload_n hx hb dX5_digest_0 rfl (lv_at hl 1 rfl) ?_
  refine lv_if_ne (tgt := 35) hx hb dX5_digest_1 (by decide) (fun hc_1 => ?_) (fun hc_1 => ?_)
  · refine lv_iload_n hx hb dX5_digest_35 rfl (lv_at hl 1 rfl) ?_
    refine lv_iconst (v := nI 1) hx hb dX5_digest_36 (by decide) ?_
    refine lv_icmp_ne (tgt := 64) hx hb dX5_digest_37 (by decide) (fun hc_37 => ?_) (fun hc_37 => ?_)
    · refine lv_bipush (v := (-2)) hx hb dX5_digest_64 (by decide) ?_
      have hRz : RepX ca ad n g z zn tb f := ⟨c_0,
            c_1,
            c_2,
            c_3,
            c_4,
            c_5,
            c_6,
            c_7,
            c_8,
            c_9,
            c_90,
            c_91,
            c_92,
            c_93,
            c_94,
            c_95,
            c_96,
            c_97,
            c_98,
            c_99,
            c_300,
            c_301,
            (fun i9 hi9 => by exact F_kf i9 hi9),
            (fun i9 hi9 => by exact F_oc i9 hi9),
            (fun i9 hi9 => by exact F_va i9 hi9),
            (fun i9 hi9 => by exact F_lw i9 hi9),
            (fun i9 hi9 => by exact F_M i9 hi9), hzn, hT⟩
      exact x_iret hx hb hr hlocks hw ⟨rfl, z, zn, hRz, (fun _ _ => rfl)⟩ dX5_digest_66
    · exact absurd hc_37 h1
  · exact absurd hc_1 h0

abbrev rmX5_alter : Room := { frames := 2, cells := 0, slots := 0, locals := 43 }

set_option maxHeartbeats 4000000 in
set_option maxRecDepth 100000 in
theorem k_X5_alter_nofile (l : Launch) (D : va_G) (ca : Nat → ClassId) (N : Nat) (ad : Nat → Nat) (B tR tK : Nat) (f : Nat → va_E) (dd : xD N ad B) (hN : 302 ≤ N) (n : Nat → Nat) (g : Nat → Nat → Int32) (z : Nat → Nat → Int32) (zn : Nat) (tb : Nat → Int32) (hR : RepX ca ad n g z zn tb f) (x : Int32) (y : Int32) (w : Int32) (ho : x < 0 ∨ nI (n 2) ≤ x) : xMi l yX5_alter wsX5_alter rmX5_alter [.ref (ad 0), .int x, .int y, .int w] D ca N ad B tR tK f (fun r u => (-1) = r ∧ ∃ (z1 : Nat → Nat → Int32) (zn1 : Nat), RepX ca ad n g z1 zn1 tb u ∧ ∀ y, 302 ≤ y → u y = f y) := by
  refine x_open (cc := cX5_alter) (maxL := 6) (ret := (some .int)) (by decide) rfl (Nat.le_of_ble_eq_true rfl) ?_
  intro p e s m below meth c ls hx hb hml hown hts hr hlocks hnm hB hK hE hw hl
  have hown : s.vm.findClass RX5 = some m.cls := hown
  have hl : lv_has ls 6 [(0, .ref (ad 0)), (1, .int x), (2, .int y), (3, .int w)] := hl
  obtain ⟨c_0, c_1, c_2, c_3, c_4, c_5, c_6, c_7, c_8, c_9, c_90, c_91, c_92, c_93, c_94, c_95, c_96, c_97, c_98, c_99, c_300, c_301, F_kf, F_oc, F_va, F_lw, F_M, hzn, hT⟩ := hR
  have b_0 := c_0
  have b_1 := c_1
  have b_2 := c_2
  have b_3 := c_3
  have b_4 := c_4
  have b_5 := c_5
  have b_6 := c_6
  have b_7 := c_7
  have b_8 := c_8
  have b_9 := c_9
  have b_90 := c_90
  have b_91 := c_91
  have b_92 := c_92
  have b_93 := c_93
  have b_94 := c_94
  have b_95 := c_95
  have b_96 := c_96
  have b_97 := c_97
  have b_98 := c_98
  have b_99 := c_99
  have b_300 := c_300
  have b_301 := c_301
  refine lv_aload_n hx hb dX5_alter_0 rfl (lv_at hl 0 rfl) ?_
  refine lv_iload_n hx hb dX5_alter_1 rfl (lv_at hl 1 rfl) ?_
  have hRk : RepX ca ad n g z zn tb f := ⟨c_0,
        c_1,
        c_2,
        c_3,
        c_4,
        c_5,
        c_6,
        c_7,
        c_8,
        c_9,
        c_90,
        c_91,
        c_92,
        c_93,
        c_94,
        c_95,
        c_96,
        c_97,
        c_98,
        c_99,
        c_300,
        c_301,
        (fun i9 hi9 => by exact F_kf i9 hi9),
        (fun i9 hi9 => by exact F_oc i9 hi9),
        (fun i9 hi9 => by exact F_va i9 hi9),
        (fun i9 hi9 => by exact F_lw i9 hi9),
        (fun i9 hi9 => by exact F_M i9 hi9), hzn, hT⟩
  have hfr : ∀ y, 302 ≤ y → f y = f y := (fun _ _ => rfl)
  refine x_Vi (q := 0) (As := [.int x]) (rest := []) ⟨hx, hb, hml, hown, hts⟩ (k_X5_isFile_no l D ca N ad B tR tK f dd hN n g z zn tb hRk x ho) (cwV 1 hts gX5_alter_X5_isFile rfl rfl rfl (by decide +kernel) ⟨Nat.le_of_ble_eq_true rfl, Nat.le_of_ble_eq_true rfl⟩) hK hE hB hw (by omega) c_0 rfl rfl rfl rfl hl.1 (Nat.le_of_ble_eq_true rfl) ⟨Nat.zero_le _, Nat.zero_le _⟩ dX5_alter_2 (fun r_2 f_1 H locs hp hw => ?_)
  obtain ⟨er, hp⟩ := hp
  rw [← er]
  rw [← hp] at hw
  refine lv_if_ne (tgt := 10) hx hb dX5_alter_5 (by decide) (fun h => False.elim (h (by decide))) (fun _ => ?_)
  refine lv_iconst (v := (-1)) hx hb dX5_alter_8 (by decide) ?_
  have hRz : RepX ca ad n g z zn tb f := ⟨c_0,
        c_1,
        c_2,
        c_3,
        c_4,
        c_5,
        c_6,
        c_7,
        c_8,
        c_9,
        c_90,
        c_91,
        c_92,
        c_93,
        c_94,
        c_95,
        c_96,
        c_97,
        c_98,
        c_99,
        c_300,
        c_301,
        (fun i9 hi9 => by exact F_kf i9 hi9),
        (fun i9 hi9 => by exact F_oc i9 hi9),
        (fun i9 hi9 => by exact F_va i9 hi9),
        (fun i9 hi9 => by exact F_lw i9 hi9),
        (fun i9 hi9 => by exact F_M i9 hi9), hzn, hT⟩
  exact x_iret hx hb hr hlocks hw ⟨rfl, z, zn, hRz, (fun _ _ => rfl)⟩ dX5_alter_9

set_option maxHeartbeats 4000000 in
set_option maxRecDepth 100000 in
theorem k_X5_alter_nobyte (l : Launch) (D : va_G) (ca : Nat → ClassId) (N : Nat) (ad : Nat → Nat) (B tR tK : Nat) (f : Nat → va_E) (dd : xD N ad B) (hN : 302 ≤ N) (n : Nat → Nat) (g : Nat → Nat → Int32) (z : Nat → Nat → Int32) (zn : Nat) (tb : Nat → Int32) (hR : RepX ca ad n g z zn tb f) (i : Nat) (y : Int32) (w : Int32) (h2 : n 2 ≤ 20) (hsz : ∀ i, i < 20 → n (10 + i) ≤ 200) (hi : i < n 2) (ho : y < 0 ∨ nI (n (10 + i)) ≤ y) : xMi l yX5_alter wsX5_alter rmX5_alter [.ref (ad 0), .int (nI i), .int y, .int w] D ca N ad B tR tK f (fun r u => (-1) = r ∧ ∃ (z1 : Nat → Nat → Int32) (zn1 : Nat), RepX ca ad n g z1 zn1 tb u ∧ ∀ y, 302 ≤ y → u y = f y) := by
  refine x_open (cc := cX5_alter) (maxL := 6) (ret := (some .int)) (by decide) rfl (Nat.le_of_ble_eq_true rfl) ?_
  intro p e s m below meth c ls hx hb hml hown hts hr hlocks hnm hB hK hE hw hl
  have hown : s.vm.findClass RX5 = some m.cls := hown
  have hl : lv_has ls 6 [(0, .ref (ad 0)), (1, .int (nI i)), (2, .int y), (3, .int w)] := hl
  obtain ⟨c_0, c_1, c_2, c_3, c_4, c_5, c_6, c_7, c_8, c_9, c_90, c_91, c_92, c_93, c_94, c_95, c_96, c_97, c_98, c_99, c_300, c_301, F_kf, F_oc, F_va, F_lw, F_M, hzn, hT⟩ := hR
  have hin_6 : ∀ w ∈ u_ws RX5 TX5 13, w ∈ wsX5_alter := by decide +kernel
  have hf_49 := hts (.fieldLink RX5 49 "FixityRows" "files" "[LFixityRows$KeptFile;") (by decide +kernel)
  have hin_1 : ∀ w ∈ u_ws RX0 TX0 8, w ∈ wsX5_alter := by decide +kernel
  have b_0 := c_0
  have b_1 := c_1
  have b_2 := c_2
  have b_3 := c_3
  have b_4 := c_4
  have b_5 := c_5
  have b_6 := c_6
  have b_7 := c_7
  have b_8 := c_8
  have b_9 := c_9
  have b_90 := c_90
  have b_91 := c_91
  have b_92 := c_92
  have b_93 := c_93
  have b_94 := c_94
  have b_95 := c_95
  have b_96 := c_96
  have b_97 := c_97
  have b_98 := c_98
  have b_99 := c_99
  have b_300 := c_300
  have b_301 := c_301
  refine lv_aload_n hx hb dX5_alter_0 rfl (lv_at hl 0 rfl) ?_
  refine lv_iload_n hx hb dX5_alter_1 rfl (lv_at hl 1 rfl) ?_
  have hRk : RepX ca ad n g z zn tb f := ⟨c_0,
        c_1,
        c_2,
        c_3,
        c_4,
        c_5,
        c_6,
        c_7,
        c_8,
        c_9,
        c_90,
        c_91,
        c_92,
        c_93,
        c_94,
        c_95,
        c_96,
        c_97,
        c_98,
        c_99,
        c_300,
        c_301,
        (fun i9 hi9 => by exact F_kf i9 hi9),
        (fun i9 hi9 => by exact F_oc i9 hi9),
        (fun i9 hi9 => by exact F_va i9 hi9),
        (fun i9 hi9 => by exact F_lw i9 hi9),
        (fun i9 hi9 => by exact F_M i9 hi9), hzn, hT⟩
  have hfr : ∀ y, 302 ≤ y → f y = f y := (fun _ _ => rfl)
  refine x_Vi (q := 0) (As := [.int (nI i)]) (rest := []) ⟨hx, hb, hml, hown, hts⟩ (k_X5_isFile_yes l D ca N ad B tR tK f dd hN n g z zn tb hRk i (by omega) (by omega)) (cwV 1 hts gX5_alter_X5_isFile rfl rfl rfl (by decide +kernel) ⟨Nat.le_of_ble_eq_true rfl, Nat.le_of_ble_eq_true rfl⟩) hK hE hB hw (by omega) c_0 rfl rfl rfl rfl hl.1 (Nat.le_of_ble_eq_true rfl) ⟨Nat.zero_le _, Nat.zero_le _⟩ dX5_alter_2 (fun r_2 f_1 H locs hp hw => ?_)
  obtain ⟨er, hp⟩ := hp
  rw [← er]
  rw [← hp] at hw
  refine lv_if_ne (tgt := 10) hx hb dX5_alter_5 (by decide) (fun _ => ?_) (fun h => absurd h (by decide))
  refine lv_aload_n hx hb dX5_alter_10 rfl (lv_at hl 0 rfl) ?_
  refine x_get (ci := 6) (C := RX5) (T := TX5) (n := 13) (ref := RX5) hx hb hts hin_6 hown hK hw 0 (by omega) c_0 rfl 6 (by decide) hf_49 (fun _ h => h) rfl dX5_alter_11 ?_
  refine lv_iload_n hx hb dX5_alter_14 rfl (lv_at hl 1 rfl) ?_
  refine x_aald (j := i) (a := ad (10 + 4 * i)) hx hb hK hw 9 3 (by omega) c_9 rfl rfl (by omega) (by decide) rfl dX5_alter_15 ?_
  have c_10_4_i : f (10 + 4 * i) = .inr (1, [.ref (ad (11 + 4 * i)), .ref (ad (13 + 4 * i)), .int (g 7 i), .int (g 8 i), .int (g 9 i), .int (g 10 i), .int (g 11 i), .int (g 12 i)]) := (F_kf i (by omega))
  refine x_getN (ci := 1) (C := RX0) (T := TX0) (n := 8) (ref := RX0) hx hb hts hin_1 hown hK hw (10 + 4 * i) (by omega) c_10_4_i rfl 0 (by decide) (hE.1 (103, "octets", "LFixityRows$Octets;") (by decide)) (fun _ h => h) rfl dX5_alter_16 ?_
  refine lv_astore (lv' := [(4, .ref (ad (11 + 4 * i))), (0, .ref (ad 0)), (1, .int (nI i)), (2, .int y), (3, .int w)]) hx hb dX5_alter_19 hl (by decide) rfl (fun ls hl => ?_)
  refine lv_aload hx hb dX5_alter_21 (lv_at hl 0 rfl) ?_
  refine lv_iload_n hx hb dX5_alter_23 rfl (lv_at hl 3 rfl) ?_
  have c_11_4_i : f (11 + 4 * i) = .inr (3, [.ref (ad (12 + 4 * i)), .int (nI (n (10 + i)))]) := (F_oc i (by omega))
  refine x_Vi (q := 11 + 4 * i) (As := [.int y]) (rest := []) ⟨hx, hb, hml, hown, hts⟩ (k_X2_has_out l D ca N ad B tR tK f dd (11 + 4 * i) (12 + 4 * i) (n (10 + i)) y (by omega) c_11_4_i  ho) (cwV 1 hts gX5_alter_X2_has rfl rfl rfl (by decide +kernel) ⟨Nat.le_of_ble_eq_true rfl, Nat.le_of_ble_eq_true rfl⟩) hK hE hB hw (by omega) c_11_4_i rfl rfl rfl rfl hl.1 (Nat.le_of_ble_eq_true rfl) ⟨Nat.zero_le _, Nat.zero_le _⟩ dX5_alter_24 (fun r_4 f_3 H locs hp hw => ?_)
  obtain ⟨er, eu⟩ := hp
  rw [← er]
  rw [← eu] at hw
  refine lv_if_ne (tgt := 32) hx hb dX5_alter_27 (by decide) (fun h => False.elim (h (by decide))) (fun _ => ?_)
  refine lv_iconst (v := (-1)) hx hb dX5_alter_30 (by decide) ?_
  have hRz : RepX ca ad n g z zn tb f := ⟨c_0,
        c_1,
        c_2,
        c_3,
        c_4,
        c_5,
        c_6,
        c_7,
        c_8,
        c_9,
        c_90,
        c_91,
        c_92,
        c_93,
        c_94,
        c_95,
        c_96,
        c_97,
        c_98,
        c_99,
        c_300,
        c_301,
        (fun i9 hi9 => by exact F_kf i9 hi9),
        (fun i9 hi9 => by exact F_oc i9 hi9),
        (fun i9 hi9 => by exact F_va i9 hi9),
        (fun i9 hi9 => by exact F_lw i9 hi9),
        (fun i9 hi9 => by exact F_M i9 hi9), hzn, hT⟩
  exact x_iret hx hb hr hlocks hw ⟨rfl, z, zn, hRz, (fun _ _ => rfl)⟩ dX5_alter_31

set_option maxHeartbeats 4000000 in
set_option maxRecDepth 100000 in
theorem k_X5_alter_in (l : Launch) (D : va_G) (ca : Nat → ClassId) (N : Nat) (ad : Nat → Nat) (B tR tK : Nat) (f : Nat → va_E) (dd : xD N ad B) (hN : 302 ≤ N) (n : Nat → Nat) (g : Nat → Nat → Int32) (z : Nat → Nat → Int32) (zn : Nat) (tb : Nat → Int32) (hR : RepX ca ad n g z zn tb f) (i : Nat) (j : Nat) (w : Int32) (h2 : n 2 ≤ 20) (hsz : ∀ i, i < 20 → n (10 + i) ≤ 200) (hi : i < n 2) (hj : j < n (10 + i)) : xMi l yX5_alter wsX5_alter rmX5_alter [.ref (ad 0), .int (nI i), .int (nI j), .int w] D ca N ad B tR tK f (fun r u => g (100 + i) j = r ∧ ∃ (z1 : Nat → Nat → Int32) (zn1 : Nat), RepX ca ad n (va_up g (100 + i) (upd (g (100 + i)) j (w &&& nI 255))) z1 zn1 tb u ∧ ∀ y, 302 ≤ y → u y = f y) := by
  refine x_open (cc := cX5_alter) (maxL := 6) (ret := (some .int)) (by decide) rfl (Nat.le_of_ble_eq_true rfl) ?_
  intro p e s m below meth c ls hx hb hml hown hts hr hlocks hnm hB hK hE hw hl
  have hown : s.vm.findClass RX5 = some m.cls := hown
  have hl : lv_has ls 6 [(0, .ref (ad 0)), (1, .int (nI i)), (2, .int (nI j)), (3, .int w)] := hl
  obtain ⟨c_0, c_1, c_2, c_3, c_4, c_5, c_6, c_7, c_8, c_9, c_90, c_91, c_92, c_93, c_94, c_95, c_96, c_97, c_98, c_99, c_300, c_301, F_kf, F_oc, F_va, F_lw, F_M, hzn, hT⟩ := hR
  have hin_6 : ∀ w ∈ u_ws RX5 TX5 13, w ∈ wsX5_alter := by decide +kernel
  have hf_49 := hts (.fieldLink RX5 49 "FixityRows" "files" "[LFixityRows$KeptFile;") (by decide +kernel)
  have hin_1 : ∀ w ∈ u_ws RX0 TX0 8, w ∈ wsX5_alter := by decide +kernel
  have b_0 := c_0
  have b_1 := c_1
  have b_2 := c_2
  have b_3 := c_3
  have b_4 := c_4
  have b_5 := c_5
  have b_6 := c_6
  have b_7 := c_7
  have b_8 := c_8
  have b_9 := c_9
  have b_90 := c_90
  have b_91 := c_91
  have b_92 := c_92
  have b_93 := c_93
  have b_94 := c_94
  have b_95 := c_95
  have b_96 := c_96
  have b_97 := c_97
  have b_98 := c_98
  have b_99 := c_99
  have b_300 := c_300
  have b_301 := c_301
  refine lv_aload_n hx hb dX5_alter_0 rfl (lv_at hl 0 rfl) ?_
  refine lv_iload_n hx hb dX5_alter_1 rfl (lv_at hl 1 rfl) ?_
  have hRk : RepX ca ad n g z zn tb f := ⟨c_0,
        c_1,
        c_2,
        c_3,
        c_4,
        c_5,
        c_6,
        c_7,
        c_8,
        c_9,
        c_90,
        c_91,
        c_92,
        c_93,
        c_94,
        c_95,
        c_96,
        c_97,
        c_98,
        c_99,
        c_300,
        c_301,
        (fun i9 hi9 => by exact F_kf i9 hi9),
        (fun i9 hi9 => by exact F_oc i9 hi9),
        (fun i9 hi9 => by exact F_va i9 hi9),
        (fun i9 hi9 => by exact F_lw i9 hi9),
        (fun i9 hi9 => by exact F_M i9 hi9), hzn, hT⟩
  have hfr : ∀ y, 302 ≤ y → f y = f y := (fun _ _ => rfl)
  refine x_Vi (q := 0) (As := [.int (nI i)]) (rest := []) ⟨hx, hb, hml, hown, hts⟩ (k_X5_isFile_yes l D ca N ad B tR tK f dd hN n g z zn tb hRk i (by omega) (by omega)) (cwV 1 hts gX5_alter_X5_isFile rfl rfl rfl (by decide +kernel) ⟨Nat.le_of_ble_eq_true rfl, Nat.le_of_ble_eq_true rfl⟩) hK hE hB hw (by omega) c_0 rfl rfl rfl rfl hl.1 (Nat.le_of_ble_eq_true rfl) ⟨Nat.zero_le _, Nat.zero_le _⟩ dX5_alter_2 (fun r_2 f_1 H locs hp hw => ?_)
  obtain ⟨er, hp⟩ := hp
  rw [← er]
  rw [← hp] at hw
  refine lv_if_ne (tgt := 10) hx hb dX5_alter_5 (by decide) (fun _ => ?_) (fun h => absurd h (by decide))
  have hs9 := hsz i (by omega)
  refine lv_aload_n hx hb dX5_alter_10 rfl (lv_at hl 0 rfl) ?_
  refine x_get (ci := 6) (C := RX5) (T := TX5) (n := 13) (ref := RX5) hx hb hts hin_6 hown hK hw 0 (by omega) c_0 rfl 6 (by decide) hf_49 (fun _ h => h) rfl dX5_alter_11 ?_
  refine lv_iload_n hx hb dX5_alter_14 rfl (lv_at hl 1 rfl) ?_
  refine x_aald (j := i) (a := ad (10 + 4 * i)) hx hb hK hw 9 3 (by omega) c_9 rfl rfl (by omega) (by decide) rfl dX5_alter_15 ?_
  have c_10_4_i : f (10 + 4 * i) = .inr (1, [.ref (ad (11 + 4 * i)), .ref (ad (13 + 4 * i)), .int (g 7 i), .int (g 8 i), .int (g 9 i), .int (g 10 i), .int (g 11 i), .int (g 12 i)]) := (F_kf i (by omega))
  refine x_getN (ci := 1) (C := RX0) (T := TX0) (n := 8) (ref := RX0) hx hb hts hin_1 hown hK hw (10 + 4 * i) (by omega) c_10_4_i rfl 0 (by decide) (hE.1 (103, "octets", "LFixityRows$Octets;") (by decide)) (fun _ h => h) rfl dX5_alter_16 ?_
  refine lv_astore (lv' := [(4, .ref (ad (11 + 4 * i))), (0, .ref (ad 0)), (1, .int (nI i)), (2, .int (nI j)), (3, .int w)]) hx hb dX5_alter_19 hl (by decide) rfl (fun ls hl => ?_)
  refine lv_aload hx hb dX5_alter_21 (lv_at hl 0 rfl) ?_
  refine lv_iload_n hx hb dX5_alter_23 rfl (lv_at hl 3 rfl) ?_
  have c_11_4_i : f (11 + 4 * i) = .inr (3, [.ref (ad (12 + 4 * i)), .int (nI (n (10 + i)))]) := (F_oc i (by omega))
  refine x_Vi (q := 11 + 4 * i) (As := [.int (nI j)]) (rest := []) ⟨hx, hb, hml, hown, hts⟩ (k_X2_has_in l D ca N ad B tR tK f dd (11 + 4 * i) (12 + 4 * i) (n (10 + i)) j (by omega) c_11_4_i  (by omega) (by omega)) (cwV 1 hts gX5_alter_X2_has rfl rfl rfl (by decide +kernel) ⟨Nat.le_of_ble_eq_true rfl, Nat.le_of_ble_eq_true rfl⟩) hK hE hB hw (by omega) c_11_4_i rfl rfl rfl rfl hl.1 (Nat.le_of_ble_eq_true rfl) ⟨Nat.zero_le _, Nat.zero_le _⟩ dX5_alter_24 (fun r_4 f_3 H locs hp hw => ?_)
  obtain ⟨er, eu⟩ := hp
  rw [← er]
  rw [← eu] at hw
  refine lv_if_ne (tgt := 32) hx hb dX5_alter_27 (by decide) (fun _ => ?_) (fun h => absurd h (by decide))
  refine lv_aload hx hb dX5_alter_32 (lv_at hl 0 rfl) ?_
  refine lv_iload_n hx hb dX5_alter_34 rfl (lv_at hl 3 rfl) ?_
  have c_12_4_i : f (12 + 4 * i) = ai (ca 0) 200 (g (100 + i)) := (F_va i (by omega))
  refine x_Vi (q := 11 + 4 * i) (As := [.int (nI j)]) (rest := []) ⟨hx, hb, hml, hown, hts⟩ (k_X2_value_in l D ca N ad B tR tK f dd (11 + 4 * i) (12 + 4 * i) (n (10 + i)) j (g (100 + i)) (by omega) c_11_4_i (by omega) c_12_4_i  (by omega) (by omega)) (cwV 1 hts gX5_alter_X2_value rfl rfl rfl (by decide +kernel) ⟨Nat.le_of_ble_eq_true rfl, Nat.le_of_ble_eq_true rfl⟩) hK hE hB hw (by omega) c_11_4_i rfl rfl rfl rfl hl.1 (Nat.le_of_ble_eq_true rfl) ⟨Nat.zero_le _, Nat.zero_le _⟩ dX5_alter_35 (fun r_6 f_5 H locs hp hw => ?_)
  obtain ⟨er, eu⟩ := hp
  rw [← er]
  rw [← eu] at hw
  refine lv_topi (fun x_7 ex_7 => ?_)
  refine lv_istore (lv' := [(5, .int x_7), (4, .ref (ad (11 + 4 * i))), (0, .ref (ad 0)), (1, .int (nI i)), (2, .int (nI j)), (3, .int w)]) hx hb dX5_alter_38 hl (by decide) rfl (fun ls hl => ?_)
  refine lv_aload hx hb dX5_alter_40 (lv_at hl 1 rfl) ?_
  refine lv_iload_n hx hb dX5_alter_42 rfl (lv_at hl 4 rfl) ?_
  refine lv_iload_n hx hb dX5_alter_43 rfl (lv_at hl 5 rfl) ?_
  refine x_Vv (q := 11 + 4 * i) (As := [.int (nI j), .int w]) (rest := []) ⟨hx, hb, hml, hown, hts⟩ (k_X2_replace_in l D ca N ad B tR tK f dd (11 + 4 * i) (12 + 4 * i) (n (10 + i)) j w (g (100 + i)) (by omega) c_11_4_i (by omega) c_12_4_i  (by omega) (by omega)) (cwV 2 hts gX5_alter_X2_replace rfl rfl rfl (by decide +kernel) ⟨Nat.le_of_ble_eq_true rfl, Nat.le_of_ble_eq_true rfl⟩) hK hE hB hw (by omega) c_11_4_i rfl rfl rfl rfl hl.1 (Nat.le_of_ble_eq_true rfl) ⟨Nat.zero_le _, Nat.zero_le _⟩ dX5_alter_44 (fun f_8 H locs hp hw => ?_)
  have eu := hp
  have ef_8 : f_8 = va_up f (12 + 4 * i) (ai (ca 0) 200 (upd (g (100 + i)) j (w &&& nI 255))) := eu
  have c_12_4_i : f_8 (12 + 4 * i) = ai (ca 0) 200 (upd (g (100 + i)) j (w &&& nI 255)) := by rw [ef_8, va_up_self]
  refine lv_iload hx hb dX5_alter_47 (lv_at hl 0 rfl) ?_
  have c_0 : f_8 0 = .inr (6, [.int (nI (n 0)), .ref (ad 1), .ref (ad 4), .ref (ad 6), .ref (ad 8), .int (nI (n 1)), .ref (ad 9), .int (nI (n 2)), .ref (ad 90), .ref (ad 300), .ref (ad 301), .int (nI (n 3)), .int (g 13 0)]) := by rw [ef_8, va_up_ne _ _ (by omega)]; exact c_0
  have c_1 : f_8 1 = .inr (2, [.ref (ad 2), .ref (ad 3)]) := by rw [ef_8, va_up_ne _ _ (by omega)]; exact c_1
  have c_2 : f_8 2 = ai (ca 0) 8 (z 0) := by rw [ef_8, va_up_ne _ _ (by omega)]; exact c_2
  have c_3 : f_8 3 = ai (ca 0) 64 (z 1) := by rw [ef_8, va_up_ne _ _ (by omega)]; exact c_3
  have c_4 : f_8 4 = .inr (5, [.ref (ad 5)]) := by rw [ef_8, va_up_ne _ _ (by omega)]; exact c_4
  have c_5 : f_8 5 = ai (ca 0) 256 tb := by rw [ef_8, va_up_ne _ _ (by omega)]; exact c_5
  have c_6 : f_8 6 = .inr (3, [.ref (ad 7), .int (nI (n 4))]) := by rw [ef_8, va_up_ne _ _ (by omega)]; exact c_6
  have c_7 : f_8 7 = ai (ca 0) 200 (g 0) := by rw [ef_8, va_up_ne _ _ (by omega)]; exact c_7
  have c_8 : f_8 8 = ai (ca 0) 8 (g 1) := by rw [ef_8, va_up_ne _ _ (by omega)]; exact c_8
  have c_9 : f_8 9 = aq (ca 3) 20 (fun i => some (ad (10 + 4 * i))) := by rw [ef_8, va_up_ne _ _ (by omega)]; exact c_9
  have c_90 : f_8 90 = .inr (4, [.ref (ad 91), .ref (ad 94), .ref (ad 96), .ref (ad 97), .ref (ad 98), .ref (ad 99), .int (nI (n 5))]) := by rw [ef_8, va_up_ne _ _ (by omega)]; exact c_90
  have c_91 : f_8 91 = .inr (2, [.ref (ad 92), .ref (ad 93)]) := by rw [ef_8, va_up_ne _ _ (by omega)]; exact c_91
  have c_92 : f_8 92 = ai (ca 0) 8 (z 2) := by rw [ef_8, va_up_ne _ _ (by omega)]; exact c_92
  have c_93 : f_8 93 = ai (ca 0) 64 (z 3) := by rw [ef_8, va_up_ne _ _ (by omega)]; exact c_93
  have c_94 : f_8 94 = .inr (3, [.ref (ad 95), .int (nI zn)]) := by rw [ef_8, va_up_ne _ _ (by omega)]; exact c_94
  have c_95 : f_8 95 = ai (ca 0) 200 (z 4) := by rw [ef_8, va_up_ne _ _ (by omega)]; exact c_95
  have c_96 : f_8 96 = ai (ca 0) 200 (g 4) := by rw [ef_8, va_up_ne _ _ (by omega)]; exact c_96
  have c_97 : f_8 97 = ai (ca 0) 200 (g 5) := by rw [ef_8, va_up_ne _ _ (by omega)]; exact c_97
  have c_98 : f_8 98 = ai (ca 0) 200 (g 6) := by rw [ef_8, va_up_ne _ _ (by omega)]; exact c_98
  have c_99 : f_8 99 = aq (ca 4) 200 (fun i => some (ad (100 + i))) := by rw [ef_8, va_up_ne _ _ (by omega)]; exact c_99
  have c_300 : f_8 300 = ai (ca 0) 20 (g 2) := by rw [ef_8, va_up_ne _ _ (by omega)]; exact c_300
  have c_301 : f_8 301 = ai (ca 2) 20 (g 3) := by rw [ef_8, va_up_ne _ _ (by omega)]; exact c_301
  have qg_0 : (va_up g (100 + i) (upd (g (100 + i)) j (w &&& nI 255))) 0 = g 0 := by rw [va_up_ne _ _ (by omega)]
  have qg_1 : (va_up g (100 + i) (upd (g (100 + i)) j (w &&& nI 255))) 1 = g 1 := by rw [va_up_ne _ _ (by omega)]
  have qg_2 : (va_up g (100 + i) (upd (g (100 + i)) j (w &&& nI 255))) 2 = g 2 := by rw [va_up_ne _ _ (by omega)]
  have qg_3 : (va_up g (100 + i) (upd (g (100 + i)) j (w &&& nI 255))) 3 = g 3 := by rw [va_up_ne _ _ (by omega)]
  have qg_4 : (va_up g (100 + i) (upd (g (100 + i)) j (w &&& nI 255))) 4 = g 4 := by rw [va_up_ne _ _ (by omega)]
  have qg_5 : (va_up g (100 + i) (upd (g (100 + i)) j (w &&& nI 255))) 5 = g 5 := by rw [va_up_ne _ _ (by omega)]
  have qg_6 : (va_up g (100 + i) (upd (g (100 + i)) j (w &&& nI 255))) 6 = g 6 := by rw [va_up_ne _ _ (by omega)]
  have qg_7 : (va_up g (100 + i) (upd (g (100 + i)) j (w &&& nI 255))) 7 = g 7 := by rw [va_up_ne _ _ (by omega)]
  have qg_8 : (va_up g (100 + i) (upd (g (100 + i)) j (w &&& nI 255))) 8 = g 8 := by rw [va_up_ne _ _ (by omega)]
  have qg_9 : (va_up g (100 + i) (upd (g (100 + i)) j (w &&& nI 255))) 9 = g 9 := by rw [va_up_ne _ _ (by omega)]
  have qg_10 : (va_up g (100 + i) (upd (g (100 + i)) j (w &&& nI 255))) 10 = g 10 := by rw [va_up_ne _ _ (by omega)]
  have qg_11 : (va_up g (100 + i) (upd (g (100 + i)) j (w &&& nI 255))) 11 = g 11 := by rw [va_up_ne _ _ (by omega)]
  have qg_12 : (va_up g (100 + i) (upd (g (100 + i)) j (w &&& nI 255))) 12 = g 12 := by rw [va_up_ne _ _ (by omega)]
  have qg_13 : (va_up g (100 + i) (upd (g (100 + i)) j (w &&& nI 255))) 13 = g 13 := by rw [va_up_ne _ _ (by omega)]
  have hRz : RepX ca ad n (va_up g (100 + i) (upd (g (100 + i)) j (w &&& nI 255))) z zn tb f_8 := ⟨(by rw [qg_13]; exact c_0),
        c_1,
        c_2,
        c_3,
        c_4,
        c_5,
        c_6,
        (by rw [qg_0]; exact c_7),
        (by rw [qg_1]; exact c_8),
        c_9,
        c_90,
        c_91,
        c_92,
        c_93,
        c_94,
        c_95,
        (by rw [qg_4]; exact c_96),
        (by rw [qg_5]; exact c_97),
        (by rw [qg_6]; exact c_98),
        c_99,
        (by rw [qg_2]; exact c_300),
        (by rw [qg_3]; exact c_301),
        (fun i9 hi9 => by rw [qg_7, qg_8, qg_9, qg_10, qg_11, qg_12]; rw [ef_8, va_up_ne _ _ (by omega)]; exact F_kf i9 hi9),
        (fun i9 hi9 => by rw [ef_8, va_up_ne _ _ (by omega)]; exact F_oc i9 hi9),
        (fun i9 hi9 => by
        by_cases ei : i9 = i
        · rw [ei, va_up_self]; exact c_12_4_i
        · rw [va_up_ne _ _ (by omega)]; rw [ef_8, va_up_ne _ _ (by omega)]; exact F_va i9 hi9),
        (fun i9 hi9 => by rw [va_up_ne _ _ (by omega)]; rw [ef_8, va_up_ne _ _ (by omega)]; exact F_lw i9 hi9),
        (fun i9 hi9 => by rw [va_up_ne _ _ (by omega)]; rw [ef_8, va_up_ne _ _ (by omega)]; exact F_M i9 hi9), hzn, hT⟩
  exact x_iret hx hb hr hlocks hw ⟨(by first | rfl | (simp only [*])), z, zn, hRz, (fun y hy => by rw [ef_8, va_up_ne _ _ (by omega)])⟩ dX5_alter_49

abbrev rmX5_cut : Room := { frames := 1, cells := 0, slots := 0, locals := 21 }

set_option maxHeartbeats 4000000 in
set_option maxRecDepth 100000 in
theorem k_X5_cut_nofile (l : Launch) (D : va_G) (ca : Nat → ClassId) (N : Nat) (ad : Nat → Nat) (B tR tK : Nat) (f : Nat → va_E) (dd : xD N ad B) (hN : 302 ≤ N) (n : Nat → Nat) (g : Nat → Nat → Int32) (z : Nat → Nat → Int32) (zn : Nat) (tb : Nat → Int32) (hR : RepX ca ad n g z zn tb f) (x : Int32) (y : Int32) (ho : x < 0 ∨ nI (n 2) ≤ x) : xMi l yX5_cut wsX5_cut rmX5_cut [.ref (ad 0), .int x, .int y] D ca N ad B tR tK f (fun r u => (-1) = r ∧ ∃ (z1 : Nat → Nat → Int32) (zn1 : Nat), RepX ca ad n g z1 zn1 tb u ∧ ∀ y, 302 ≤ y → u y = f y) := by
  refine x_open (cc := cX5_cut) (maxL := 5) (ret := (some .int)) (by decide) rfl (Nat.le_of_ble_eq_true rfl) ?_
  intro p e s m below meth c ls hx hb hml hown hts hr hlocks hnm hB hK hE hw hl
  have hown : s.vm.findClass RX5 = some m.cls := hown
  have hl : lv_has ls 5 [(0, .ref (ad 0)), (1, .int x), (2, .int y)] := hl
  obtain ⟨c_0, c_1, c_2, c_3, c_4, c_5, c_6, c_7, c_8, c_9, c_90, c_91, c_92, c_93, c_94, c_95, c_96, c_97, c_98, c_99, c_300, c_301, F_kf, F_oc, F_va, F_lw, F_M, hzn, hT⟩ := hR
  have b_0 := c_0
  have b_1 := c_1
  have b_2 := c_2
  have b_3 := c_3
  have b_4 := c_4
  have b_5 := c_5
  have b_6 := c_6
  have b_7 := c_7
  have b_8 := c_8
  have b_9 := c_9
  have b_90 := c_90
  have b_91 := c_91
  have b_92 := c_92
  have b_93 := c_93
  have b_94 := c_94
  have b_95 := c_95
  have b_96 := c_96
  have b_97 := c_97
  have b_98 := c_98
  have b_99 := c_99
  have b_300 := c_300
  have b_301 := c_301
  refine lv_aload_n hx hb dX5_cut_0 rfl (lv_at hl 0 rfl) ?_
  refine lv_iload_n hx hb dX5_cut_1 rfl (lv_at hl 1 rfl) ?_
  have hRk : RepX ca ad n g z zn tb f := ⟨c_0,
        c_1,
        c_2,
        c_3,
        c_4,
        c_5,
        c_6,
        c_7,
        c_8,
        c_9,
        c_90,
        c_91,
        c_92,
        c_93,
        c_94,
        c_95,
        c_96,
        c_97,
        c_98,
        c_99,
        c_300,
        c_301,
        (fun i9 hi9 => by exact F_kf i9 hi9),
        (fun i9 hi9 => by exact F_oc i9 hi9),
        (fun i9 hi9 => by exact F_va i9 hi9),
        (fun i9 hi9 => by exact F_lw i9 hi9),
        (fun i9 hi9 => by exact F_M i9 hi9), hzn, hT⟩
  have hfr : ∀ y, 302 ≤ y → f y = f y := (fun _ _ => rfl)
  refine x_Vi (q := 0) (As := [.int x]) (rest := []) ⟨hx, hb, hml, hown, hts⟩ (k_X5_isFile_no l D ca N ad B tR tK f dd hN n g z zn tb hRk x ho) (cwV 1 hts gX5_cut_X5_isFile rfl rfl rfl (by decide +kernel) ⟨Nat.le_of_ble_eq_true rfl, Nat.le_of_ble_eq_true rfl⟩) hK hE hB hw (by omega) c_0 rfl rfl rfl rfl hl.1 (Nat.le_of_ble_eq_true rfl) ⟨Nat.zero_le _, Nat.zero_le _⟩ dX5_cut_2 (fun r_2 f_1 H locs hp hw => ?_)
  obtain ⟨er, hp⟩ := hp
  rw [← er]
  rw [← hp] at hw
  refine lv_if_ne (tgt := 10) hx hb dX5_cut_5 (by decide) (fun h => False.elim (h (by decide))) (fun _ => ?_)
  refine lv_iconst (v := (-1)) hx hb dX5_cut_8 (by decide) ?_
  have hRz : RepX ca ad n g z zn tb f := ⟨c_0,
        c_1,
        c_2,
        c_3,
        c_4,
        c_5,
        c_6,
        c_7,
        c_8,
        c_9,
        c_90,
        c_91,
        c_92,
        c_93,
        c_94,
        c_95,
        c_96,
        c_97,
        c_98,
        c_99,
        c_300,
        c_301,
        (fun i9 hi9 => by exact F_kf i9 hi9),
        (fun i9 hi9 => by exact F_oc i9 hi9),
        (fun i9 hi9 => by exact F_va i9 hi9),
        (fun i9 hi9 => by exact F_lw i9 hi9),
        (fun i9 hi9 => by exact F_M i9 hi9), hzn, hT⟩
  exact x_iret hx hb hr hlocks hw ⟨rfl, z, zn, hRz, (fun _ _ => rfl)⟩ dX5_cut_9

set_option maxHeartbeats 4000000 in
set_option maxRecDepth 100000 in
theorem k_X5_cut_range (l : Launch) (D : va_G) (ca : Nat → ClassId) (N : Nat) (ad : Nat → Nat) (B tR tK : Nat) (f : Nat → va_E) (dd : xD N ad B) (hN : 302 ≤ N) (n : Nat → Nat) (g : Nat → Nat → Int32) (z : Nat → Nat → Int32) (zn : Nat) (tb : Nat → Int32) (hR : RepX ca ad n g z zn tb f) (i : Nat) (y : Int32) (h2 : n 2 ≤ 20) (hsz : ∀ i, i < 20 → n (10 + i) ≤ 200) (hi : i < n 2) (ho : y < 0 ∨ nI (n (10 + i)) < y) : xMi l yX5_cut wsX5_cut rmX5_cut [.ref (ad 0), .int (nI i), .int y] D ca N ad B tR tK f (fun r u => (-2) = r ∧ ∃ (z1 : Nat → Nat → Int32) (zn1 : Nat), RepX ca ad n g z1 zn1 tb u ∧ ∀ y, 302 ≤ y → u y = f y) := by
  refine x_open (cc := cX5_cut) (maxL := 5) (ret := (some .int)) (by decide) rfl (Nat.le_of_ble_eq_true rfl) ?_
  intro p e s m below meth c ls hx hb hml hown hts hr hlocks hnm hB hK hE hw hl
  have hown : s.vm.findClass RX5 = some m.cls := hown
  have hl : lv_has ls 5 [(0, .ref (ad 0)), (1, .int (nI i)), (2, .int y)] := hl
  obtain ⟨c_0, c_1, c_2, c_3, c_4, c_5, c_6, c_7, c_8, c_9, c_90, c_91, c_92, c_93, c_94, c_95, c_96, c_97, c_98, c_99, c_300, c_301, F_kf, F_oc, F_va, F_lw, F_M, hzn, hT⟩ := hR
  have hin_6 : ∀ w ∈ u_ws RX5 TX5 13, w ∈ wsX5_cut := by decide +kernel
  have hf_49 := hts (.fieldLink RX5 49 "FixityRows" "files" "[LFixityRows$KeptFile;") (by decide +kernel)
  have hin_1 : ∀ w ∈ u_ws RX0 TX0 8, w ∈ wsX5_cut := by decide +kernel
  have b_0 := c_0
  have b_1 := c_1
  have b_2 := c_2
  have b_3 := c_3
  have b_4 := c_4
  have b_5 := c_5
  have b_6 := c_6
  have b_7 := c_7
  have b_8 := c_8
  have b_9 := c_9
  have b_90 := c_90
  have b_91 := c_91
  have b_92 := c_92
  have b_93 := c_93
  have b_94 := c_94
  have b_95 := c_95
  have b_96 := c_96
  have b_97 := c_97
  have b_98 := c_98
  have b_99 := c_99
  have b_300 := c_300
  have b_301 := c_301
  refine lv_aload_n hx hb dX5_cut_0 rfl (lv_at hl 0 rfl) ?_
  refine lv_iload_n hx hb dX5_cut_1 rfl (lv_at hl 1 rfl) ?_
  have hRk : RepX ca ad n g z zn tb f := ⟨c_0,
        c_1,
        c_2,
        c_3,
        c_4,
        c_5,
        c_6,
        c_7,
        c_8,
        c_9,
        c_90,
        c_91,
        c_92,
        c_93,
        c_94,
        c_95,
        c_96,
        c_97,
        c_98,
        c_99,
        c_300,
        c_301,
        (fun i9 hi9 => by exact F_kf i9 hi9),
        (fun i9 hi9 => by exact F_oc i9 hi9),
        (fun i9 hi9 => by exact F_va i9 hi9),
        (fun i9 hi9 => by exact F_lw i9 hi9),
        (fun i9 hi9 => by exact F_M i9 hi9), hzn, hT⟩
  have hfr : ∀ y, 302 ≤ y → f y = f y := (fun _ _ => rfl)
  refine x_Vi (q := 0) (As := [.int (nI i)]) (rest := []) ⟨hx, hb, hml, hown, hts⟩ (k_X5_isFile_yes l D ca N ad B tR tK f dd hN n g z zn tb hRk i (by omega) (by omega)) (cwV 1 hts gX5_cut_X5_isFile rfl rfl rfl (by decide +kernel) ⟨Nat.le_of_ble_eq_true rfl, Nat.le_of_ble_eq_true rfl⟩) hK hE hB hw (by omega) c_0 rfl rfl rfl rfl hl.1 (Nat.le_of_ble_eq_true rfl) ⟨Nat.zero_le _, Nat.zero_le _⟩ dX5_cut_2 (fun r_2 f_1 H locs hp hw => ?_)
  obtain ⟨er, hp⟩ := hp
  rw [← er]
  rw [← hp] at hw
  refine lv_if_ne (tgt := 10) hx hb dX5_cut_5 (by decide) (fun _ => ?_) (fun h => absurd h (by decide))
  refine lv_aload_n hx hb dX5_cut_10 rfl (lv_at hl 0 rfl) ?_
  refine x_get (ci := 6) (C := RX5) (T := TX5) (n := 13) (ref := RX5) hx hb hts hin_6 hown hK hw 0 (by omega) c_0 rfl 6 (by decide) hf_49 (fun _ h => h) rfl dX5_cut_11 ?_
  refine lv_iload_n hx hb dX5_cut_14 rfl (lv_at hl 1 rfl) ?_
  refine x_aald (j := i) (a := ad (10 + 4 * i)) hx hb hK hw 9 3 (by omega) c_9 rfl rfl (by omega) (by decide) rfl dX5_cut_15 ?_
  have c_10_4_i : f (10 + 4 * i) = .inr (1, [.ref (ad (11 + 4 * i)), .ref (ad (13 + 4 * i)), .int (g 7 i), .int (g 8 i), .int (g 9 i), .int (g 10 i), .int (g 11 i), .int (g 12 i)]) := (F_kf i (by omega))
  refine x_getN (ci := 1) (C := RX0) (T := TX0) (n := 8) (ref := RX0) hx hb hts hin_1 hown hK hw (10 + 4 * i) (by omega) c_10_4_i rfl 0 (by decide) (hE.1 (103, "octets", "LFixityRows$Octets;") (by decide)) (fun _ h => h) rfl dX5_cut_16 ?_
  refine lv_astore_n (lv' := [(3, .ref (ad (11 + 4 * i))), (0, .ref (ad 0)), (1, .int (nI i)), (2, .int y)]) hx hb dX5_cut_19 rfl hl (by decide) rfl (fun ls hl => ?_)
  refine lv_aload_n hx hb dX5_cut_20 rfl (lv_at hl 0 rfl) ?_
  have c_11_4_i : f (11 + 4 * i) = .inr (3, [.ref (ad (12 + 4 * i)), .int (nI (n (10 + i)))]) := (F_oc i (by omega))
  refine x_Vi (q := 11 + 4 * i) (As := []) (rest := []) ⟨hx, hb, hml, hown, hts⟩ (k_X2_count l D ca N ad B tR tK f dd (11 + 4 * i) (12 + 4 * i) (n (10 + i)) (by omega) c_11_4_i  ) (cwV 0 hts gX5_cut_X2_count rfl rfl rfl (by decide +kernel) ⟨Nat.le_of_ble_eq_true rfl, Nat.le_of_ble_eq_true rfl⟩) hK hE hB hw (by omega) c_11_4_i rfl rfl rfl rfl hl.1 (Nat.le_of_ble_eq_true rfl) ⟨Nat.zero_le _, Nat.zero_le _⟩ dX5_cut_21 (fun r_4 f_3 H locs hp hw => ?_)
  obtain ⟨er, eu⟩ := hp
  rw [← er]
  rw [← eu] at hw
  refine lv_istore (lv' := [(4, .int (nI (n (10 + i)))), (3, .ref (ad (11 + 4 * i))), (0, .ref (ad 0)), (1, .int (nI i)), (2, .int y)]) hx hb dX5_cut_24 hl (by decide) rfl (fun ls hl => ?_)
  refine lv_iload_n hx hb dX5_cut_26 rfl (lv_at hl 4 rfl) ?_
  refine lv_if_lt (tgt := 36) hx hb dX5_cut_27 (by decide) (fun hc_27 => ?_) (fun hc_27 => ?_)
  · refine lv_bipush (v := (-2)) hx hb dX5_cut_36 (by decide) ?_
    have hRz : RepX ca ad n g z zn tb f := ⟨c_0,
          c_1,
          c_2,
          c_3,
          c_4,
          c_5,
          c_6,
          c_7,
          c_8,
          c_9,
          c_90,
          c_91,
          c_92,
          c_93,
          c_94,
          c_95,
          c_96,
          c_97,
          c_98,
          c_99,
          c_300,
          c_301,
          (fun i9 hi9 => by exact F_kf i9 hi9),
          (fun i9 hi9 => by exact F_oc i9 hi9),
          (fun i9 hi9 => by exact F_va i9 hi9),
          (fun i9 hi9 => by exact F_lw i9 hi9),
          (fun i9 hi9 => by exact F_M i9 hi9), hzn, hT⟩
    exact x_iret hx hb hr hlocks hw ⟨rfl, z, zn, hRz, (fun _ _ => rfl)⟩ dX5_cut_38
  · refine lv_iload_n hx hb dX5_cut_30 rfl (lv_at hl 4 rfl) ?_
    refine lv_iload hx hb dX5_cut_31 (lv_at hl 0 rfl) ?_
    refine lv_icmp_le (tgt := 39) hx hb dX5_cut_33 (by decide) (fun hc_33 => ?_) (fun hc_33 => ?_)
    · exact absurd ho (fun z => z.elim hc_27 (fun q => absurd hc_33 (Int32.not_le.mpr q)))
    · refine lv_bipush (v := (-2)) hx hb dX5_cut_36 (by decide) ?_
      have hRz : RepX ca ad n g z zn tb f := ⟨c_0,
            c_1,
            c_2,
            c_3,
            c_4,
            c_5,
            c_6,
            c_7,
            c_8,
            c_9,
            c_90,
            c_91,
            c_92,
            c_93,
            c_94,
            c_95,
            c_96,
            c_97,
            c_98,
            c_99,
            c_300,
            c_301,
            (fun i9 hi9 => by exact F_kf i9 hi9),
            (fun i9 hi9 => by exact F_oc i9 hi9),
            (fun i9 hi9 => by exact F_va i9 hi9),
            (fun i9 hi9 => by exact F_lw i9 hi9),
            (fun i9 hi9 => by exact F_M i9 hi9), hzn, hT⟩
      exact x_iret hx hb hr hlocks hw ⟨rfl, z, zn, hRz, (fun _ _ => rfl)⟩ dX5_cut_38

set_option maxHeartbeats 4000000 in
set_option maxRecDepth 100000 in
theorem k_X5_cut_in (l : Launch) (D : va_G) (ca : Nat → ClassId) (N : Nat) (ad : Nat → Nat) (B tR tK : Nat) (f : Nat → va_E) (dd : xD N ad B) (hN : 302 ≤ N) (n : Nat → Nat) (g : Nat → Nat → Int32) (z : Nat → Nat → Int32) (zn : Nat) (tb : Nat → Int32) (hR : RepX ca ad n g z zn tb f) (i : Nat) (j : Nat) (h2 : n 2 ≤ 20) (hsz : ∀ i, i < 20 → n (10 + i) ≤ 200) (hi : i < n 2) (hj : j < n (10 + i)) : xMi l yX5_cut wsX5_cut rmX5_cut [.ref (ad 0), .int (nI i), .int (nI j)] D ca N ad B tR tK f (fun r u => nI (n (10 + i) - j) = r ∧ ∃ (z1 : Nat → Nat → Int32) (zn1 : Nat), RepX ca ad (va_up n (10 + i) j) g z1 zn1 tb u ∧ ∀ y, 302 ≤ y → u y = f y) := by
  refine x_open (cc := cX5_cut) (maxL := 5) (ret := (some .int)) (by decide) rfl (Nat.le_of_ble_eq_true rfl) ?_
  intro p e s m below meth c ls hx hb hml hown hts hr hlocks hnm hB hK hE hw hl
  have hown : s.vm.findClass RX5 = some m.cls := hown
  have hl : lv_has ls 5 [(0, .ref (ad 0)), (1, .int (nI i)), (2, .int (nI j))] := hl
  obtain ⟨c_0, c_1, c_2, c_3, c_4, c_5, c_6, c_7, c_8, c_9, c_90, c_91, c_92, c_93, c_94, c_95, c_96, c_97, c_98, c_99, c_300, c_301, F_kf, F_oc, F_va, F_lw, F_M, hzn, hT⟩ := hR
  have hin_6 : ∀ w ∈ u_ws RX5 TX5 13, w ∈ wsX5_cut := by decide +kernel
  have hf_49 := hts (.fieldLink RX5 49 "FixityRows" "files" "[LFixityRows$KeptFile;") (by decide +kernel)
  have hin_1 : ∀ w ∈ u_ws RX0 TX0 8, w ∈ wsX5_cut := by decide +kernel
  have b_0 := c_0
  have b_1 := c_1
  have b_2 := c_2
  have b_3 := c_3
  have b_4 := c_4
  have b_5 := c_5
  have b_6 := c_6
  have b_7 := c_7
  have b_8 := c_8
  have b_9 := c_9
  have b_90 := c_90
  have b_91 := c_91
  have b_92 := c_92
  have b_93 := c_93
  have b_94 := c_94
  have b_95 := c_95
  have b_96 := c_96
  have b_97 := c_97
  have b_98 := c_98
  have b_99 := c_99
  have b_300 := c_300
  have b_301 := c_301
  refine lv_aload_n hx hb dX5_cut_0 rfl (lv_at hl 0 rfl) ?_
  refine lv_iload_n hx hb dX5_cut_1 rfl (lv_at hl 1 rfl) ?_
  have hRk : RepX ca ad n g z zn tb f := ⟨c_0,
        c_1,
        c_2,
        c_3,
        c_4,
        c_5,
        c_6,
        c_7,
        c_8,
        c_9,
        c_90,
        c_91,
        c_92,
        c_93,
        c_94,
        c_95,
        c_96,
        c_97,
        c_98,
        c_99,
        c_300,
        c_301,
        (fun i9 hi9 => by exact F_kf i9 hi9),
        (fun i9 hi9 => by exact F_oc i9 hi9),
        (fun i9 hi9 => by exact F_va i9 hi9),
        (fun i9 hi9 => by exact F_lw i9 hi9),
        (fun i9 hi9 => by exact F_M i9 hi9), hzn, hT⟩
  have hfr : ∀ y, 302 ≤ y → f y = f y := (fun _ _ => rfl)
  refine x_Vi (q := 0) (As := [.int (nI i)]) (rest := []) ⟨hx, hb, hml, hown, hts⟩ (k_X5_isFile_yes l D ca N ad B tR tK f dd hN n g z zn tb hRk i (by omega) (by omega)) (cwV 1 hts gX5_cut_X5_isFile rfl rfl rfl (by decide +kernel) ⟨Nat.le_of_ble_eq_true rfl, Nat.le_of_ble_eq_true rfl⟩) hK hE hB hw (by omega) c_0 rfl rfl rfl rfl hl.1 (Nat.le_of_ble_eq_true rfl) ⟨Nat.zero_le _, Nat.zero_le _⟩ dX5_cut_2 (fun r_2 f_1 H locs hp hw => ?_)
  obtain ⟨er, hp⟩ := hp
  rw [← er]
  rw [← hp] at hw
  refine lv_if_ne (tgt := 10) hx hb dX5_cut_5 (by decide) (fun _ => ?_) (fun h => absurd h (by decide))
  have hs9 := hsz i (by omega)
  refine lv_aload_n hx hb dX5_cut_10 rfl (lv_at hl 0 rfl) ?_
  refine x_get (ci := 6) (C := RX5) (T := TX5) (n := 13) (ref := RX5) hx hb hts hin_6 hown hK hw 0 (by omega) c_0 rfl 6 (by decide) hf_49 (fun _ h => h) rfl dX5_cut_11 ?_
  refine lv_iload_n hx hb dX5_cut_14 rfl (lv_at hl 1 rfl) ?_
  refine x_aald (j := i) (a := ad (10 + 4 * i)) hx hb hK hw 9 3 (by omega) c_9 rfl rfl (by omega) (by decide) rfl dX5_cut_15 ?_
  have c_10_4_i : f (10 + 4 * i) = .inr (1, [.ref (ad (11 + 4 * i)), .ref (ad (13 + 4 * i)), .int (g 7 i), .int (g 8 i), .int (g 9 i), .int (g 10 i), .int (g 11 i), .int (g 12 i)]) := (F_kf i (by omega))
  refine x_getN (ci := 1) (C := RX0) (T := TX0) (n := 8) (ref := RX0) hx hb hts hin_1 hown hK hw (10 + 4 * i) (by omega) c_10_4_i rfl 0 (by decide) (hE.1 (103, "octets", "LFixityRows$Octets;") (by decide)) (fun _ h => h) rfl dX5_cut_16 ?_
  refine lv_astore_n (lv' := [(3, .ref (ad (11 + 4 * i))), (0, .ref (ad 0)), (1, .int (nI i)), (2, .int (nI j))]) hx hb dX5_cut_19 rfl hl (by decide) rfl (fun ls hl => ?_)
  refine lv_aload_n hx hb dX5_cut_20 rfl (lv_at hl 0 rfl) ?_
  have c_11_4_i : f (11 + 4 * i) = .inr (3, [.ref (ad (12 + 4 * i)), .int (nI (n (10 + i)))]) := (F_oc i (by omega))
  refine x_Vi (q := 11 + 4 * i) (As := []) (rest := []) ⟨hx, hb, hml, hown, hts⟩ (k_X2_count l D ca N ad B tR tK f dd (11 + 4 * i) (12 + 4 * i) (n (10 + i)) (by omega) c_11_4_i  ) (cwV 0 hts gX5_cut_X2_count rfl rfl rfl (by decide +kernel) ⟨Nat.le_of_ble_eq_true rfl, Nat.le_of_ble_eq_true rfl⟩) hK hE hB hw (by omega) c_11_4_i rfl rfl rfl rfl hl.1 (Nat.le_of_ble_eq_true rfl) ⟨Nat.zero_le _, Nat.zero_le _⟩ dX5_cut_21 (fun r_4 f_3 H locs hp hw => ?_)
  obtain ⟨er, eu⟩ := hp
  rw [← er]
  rw [← eu] at hw
  refine lv_istore (lv' := [(4, .int (nI (n (10 + i)))), (3, .ref (ad (11 + 4 * i))), (0, .ref (ad 0)), (1, .int (nI i)), (2, .int (nI j))]) hx hb dX5_cut_24 hl (by decide) rfl (fun ls hl => ?_)
  refine lv_iload_n hx hb dX5_cut_26 rfl (lv_at hl 4 rfl) ?_
  refine n_iflt (tgt := 36) hx hb dX5_cut_27 (by decide) (by omega) ?_
  refine lv_iload_n hx hb dX5_cut_30 rfl (lv_at hl 4 rfl) ?_
  refine lv_iload hx hb dX5_cut_31 (lv_at hl 0 rfl) ?_
  refine n_icle (tgt := 39) hx hb dX5_cut_33 (by decide) (by omega) (by omega) (fun hc_33 => ?_) (fun hc_33 => ?_)
  · refine lv_aload_n hx hb dX5_cut_39 rfl (lv_at hl 1 rfl) ?_
    refine lv_iload_n hx hb dX5_cut_40 rfl (lv_at hl 4 rfl) ?_
    refine x_Vv (q := 11 + 4 * i) (As := [.int (nI j)]) (rest := []) ⟨hx, hb, hml, hown, hts⟩ (k_X2_shorten_in l D ca N ad B tR tK f dd (11 + 4 * i) (12 + 4 * i) (n (10 + i)) j (by omega) c_11_4_i  (by omega) (by omega)) (cwV 1 hts gX5_cut_X2_shorten rfl rfl rfl (by decide +kernel) ⟨Nat.le_of_ble_eq_true rfl, Nat.le_of_ble_eq_true rfl⟩) hK hE hB hw (by omega) c_11_4_i rfl rfl rfl rfl hl.1 (Nat.le_of_ble_eq_true rfl) ⟨Nat.zero_le _, Nat.zero_le _⟩ dX5_cut_41 (fun f_5 H locs hp hw => ?_)
    have eu := hp
    have ef_5 : f_5 = va_up f (11 + 4 * i) (.inr (3, [.ref (ad (12 + 4 * i)), .int (nI j)])) := eu
    have c_11_4_i : f_5 (11 + 4 * i) = .inr (3, [.ref (ad (12 + 4 * i)), .int (nI j)]) := by rw [ef_5, va_up_self]
    refine lv_iload hx hb dX5_cut_44 (lv_at hl 0 rfl) ?_
    refine lv_iload_n hx hb dX5_cut_46 rfl (lv_at hl 4 rfl) ?_
    refine n_isub hx hb dX5_cut_47 (by omega) ?_
    have c_0 : f_5 0 = .inr (6, [.int (nI (n 0)), .ref (ad 1), .ref (ad 4), .ref (ad 6), .ref (ad 8), .int (nI (n 1)), .ref (ad 9), .int (nI (n 2)), .ref (ad 90), .ref (ad 300), .ref (ad 301), .int (nI (n 3)), .int (g 13 0)]) := by rw [ef_5, va_up_ne _ _ (by omega)]; exact c_0
    have c_1 : f_5 1 = .inr (2, [.ref (ad 2), .ref (ad 3)]) := by rw [ef_5, va_up_ne _ _ (by omega)]; exact c_1
    have c_2 : f_5 2 = ai (ca 0) 8 (z 0) := by rw [ef_5, va_up_ne _ _ (by omega)]; exact c_2
    have c_3 : f_5 3 = ai (ca 0) 64 (z 1) := by rw [ef_5, va_up_ne _ _ (by omega)]; exact c_3
    have c_4 : f_5 4 = .inr (5, [.ref (ad 5)]) := by rw [ef_5, va_up_ne _ _ (by omega)]; exact c_4
    have c_5 : f_5 5 = ai (ca 0) 256 tb := by rw [ef_5, va_up_ne _ _ (by omega)]; exact c_5
    have c_6 : f_5 6 = .inr (3, [.ref (ad 7), .int (nI (n 4))]) := by rw [ef_5, va_up_ne _ _ (by omega)]; exact c_6
    have c_7 : f_5 7 = ai (ca 0) 200 (g 0) := by rw [ef_5, va_up_ne _ _ (by omega)]; exact c_7
    have c_8 : f_5 8 = ai (ca 0) 8 (g 1) := by rw [ef_5, va_up_ne _ _ (by omega)]; exact c_8
    have c_9 : f_5 9 = aq (ca 3) 20 (fun i => some (ad (10 + 4 * i))) := by rw [ef_5, va_up_ne _ _ (by omega)]; exact c_9
    have c_90 : f_5 90 = .inr (4, [.ref (ad 91), .ref (ad 94), .ref (ad 96), .ref (ad 97), .ref (ad 98), .ref (ad 99), .int (nI (n 5))]) := by rw [ef_5, va_up_ne _ _ (by omega)]; exact c_90
    have c_91 : f_5 91 = .inr (2, [.ref (ad 92), .ref (ad 93)]) := by rw [ef_5, va_up_ne _ _ (by omega)]; exact c_91
    have c_92 : f_5 92 = ai (ca 0) 8 (z 2) := by rw [ef_5, va_up_ne _ _ (by omega)]; exact c_92
    have c_93 : f_5 93 = ai (ca 0) 64 (z 3) := by rw [ef_5, va_up_ne _ _ (by omega)]; exact c_93
    have c_94 : f_5 94 = .inr (3, [.ref (ad 95), .int (nI zn)]) := by rw [ef_5, va_up_ne _ _ (by omega)]; exact c_94
    have c_95 : f_5 95 = ai (ca 0) 200 (z 4) := by rw [ef_5, va_up_ne _ _ (by omega)]; exact c_95
    have c_96 : f_5 96 = ai (ca 0) 200 (g 4) := by rw [ef_5, va_up_ne _ _ (by omega)]; exact c_96
    have c_97 : f_5 97 = ai (ca 0) 200 (g 5) := by rw [ef_5, va_up_ne _ _ (by omega)]; exact c_97
    have c_98 : f_5 98 = ai (ca 0) 200 (g 6) := by rw [ef_5, va_up_ne _ _ (by omega)]; exact c_98
    have c_99 : f_5 99 = aq (ca 4) 200 (fun i => some (ad (100 + i))) := by rw [ef_5, va_up_ne _ _ (by omega)]; exact c_99
    have c_300 : f_5 300 = ai (ca 0) 20 (g 2) := by rw [ef_5, va_up_ne _ _ (by omega)]; exact c_300
    have c_301 : f_5 301 = ai (ca 2) 20 (g 3) := by rw [ef_5, va_up_ne _ _ (by omega)]; exact c_301
    have qn_0 : (va_up n (10 + i) j) 0 = n 0 := by rw [va_up_ne _ _ (by omega)]
    have qn_1 : (va_up n (10 + i) j) 1 = n 1 := by rw [va_up_ne _ _ (by omega)]
    have qn_2 : (va_up n (10 + i) j) 2 = n 2 := by rw [va_up_ne _ _ (by omega)]
    have qn_3 : (va_up n (10 + i) j) 3 = n 3 := by rw [va_up_ne _ _ (by omega)]
    have qn_4 : (va_up n (10 + i) j) 4 = n 4 := by rw [va_up_ne _ _ (by omega)]
    have qn_5 : (va_up n (10 + i) j) 5 = n 5 := by rw [va_up_ne _ _ (by omega)]
    have hRz : RepX ca ad (va_up n (10 + i) j) g z zn tb f_5 := ⟨(by rw [qn_0, qn_1, qn_2, qn_3]; exact c_0),
          c_1,
          c_2,
          c_3,
          c_4,
          c_5,
          (by rw [qn_4]; exact c_6),
          c_7,
          c_8,
          c_9,
          (by rw [qn_5]; exact c_90),
          c_91,
          c_92,
          c_93,
          c_94,
          c_95,
          c_96,
          c_97,
          c_98,
          c_99,
          c_300,
          c_301,
          (fun i9 hi9 => by rw [ef_5, va_up_ne _ _ (by omega)]; exact F_kf i9 hi9),
          (fun i9 hi9 => by
          by_cases ei : i9 = i
          · rw [ei, va_up_self]; exact c_11_4_i
          · rw [va_up_ne _ _ (by omega)]; rw [ef_5, va_up_ne _ _ (by omega)]; exact F_oc i9 hi9),
          (fun i9 hi9 => by rw [ef_5, va_up_ne _ _ (by omega)]; exact F_va i9 hi9),
          (fun i9 hi9 => by rw [ef_5, va_up_ne _ _ (by omega)]; exact F_lw i9 hi9),
          (fun i9 hi9 => by rw [ef_5, va_up_ne _ _ (by omega)]; exact F_M i9 hi9), hzn, hT⟩
    exact x_iret hx hb hr hlocks hw ⟨rfl, z, zn, hRz, (fun y hy => by rw [ef_5, va_up_ne _ _ (by omega)])⟩ dX5_cut_48
  · omega

set_option maxHeartbeats 4000000 in
set_option maxRecDepth 100000 in
theorem k_X5_cut_all (l : Launch) (D : va_G) (ca : Nat → ClassId) (N : Nat) (ad : Nat → Nat) (B tR tK : Nat) (f : Nat → va_E) (dd : xD N ad B) (hN : 302 ≤ N) (n : Nat → Nat) (g : Nat → Nat → Int32) (z : Nat → Nat → Int32) (zn : Nat) (tb : Nat → Int32) (hR : RepX ca ad n g z zn tb f) (i : Nat) (j : Nat) (h2 : n 2 ≤ 20) (hsz : ∀ i, i < 20 → n (10 + i) ≤ 200) (hi : i < n 2) (hj : j = n (10 + i)) : xMi l yX5_cut wsX5_cut rmX5_cut [.ref (ad 0), .int (nI i), .int (nI j)] D ca N ad B tR tK f (fun r u => nI 0 = r ∧ ∃ (z1 : Nat → Nat → Int32) (zn1 : Nat), RepX ca ad n g z1 zn1 tb u ∧ ∀ y, 302 ≤ y → u y = f y) := by
  refine x_open (cc := cX5_cut) (maxL := 5) (ret := (some .int)) (by decide) rfl (Nat.le_of_ble_eq_true rfl) ?_
  intro p e s m below meth c ls hx hb hml hown hts hr hlocks hnm hB hK hE hw hl
  have hown : s.vm.findClass RX5 = some m.cls := hown
  have hl : lv_has ls 5 [(0, .ref (ad 0)), (1, .int (nI i)), (2, .int (nI j))] := hl
  obtain ⟨c_0, c_1, c_2, c_3, c_4, c_5, c_6, c_7, c_8, c_9, c_90, c_91, c_92, c_93, c_94, c_95, c_96, c_97, c_98, c_99, c_300, c_301, F_kf, F_oc, F_va, F_lw, F_M, hzn, hT⟩ := hR
  have hin_6 : ∀ w ∈ u_ws RX5 TX5 13, w ∈ wsX5_cut := by decide +kernel
  have hf_49 := hts (.fieldLink RX5 49 "FixityRows" "files" "[LFixityRows$KeptFile;") (by decide +kernel)
  have hin_1 : ∀ w ∈ u_ws RX0 TX0 8, w ∈ wsX5_cut := by decide +kernel
  have b_0 := c_0
  have b_1 := c_1
  have b_2 := c_2
  have b_3 := c_3
  have b_4 := c_4
  have b_5 := c_5
  have b_6 := c_6
  have b_7 := c_7
  have b_8 := c_8
  have b_9 := c_9
  have b_90 := c_90
  have b_91 := c_91
  have b_92 := c_92
  have b_93 := c_93
  have b_94 := c_94
  have b_95 := c_95
  have b_96 := c_96
  have b_97 := c_97
  have b_98 := c_98
  have b_99 := c_99
  have b_300 := c_300
  have b_301 := c_301
  refine lv_aload_n hx hb dX5_cut_0 rfl (lv_at hl 0 rfl) ?_
  refine lv_iload_n hx hb dX5_cut_1 rfl (lv_at hl 1 rfl) ?_
  have hRk : RepX ca ad n g z zn tb f := ⟨c_0,
        c_1,
        c_2,
        c_3,
        c_4,
        c_5,
        c_6,
        c_7,
        c_8,
        c_9,
        c_90,
        c_91,
        c_92,
        c_93,
        c_94,
        c_95,
        c_96,
        c_97,
        c_98,
        c_99,
        c_300,
        c_301,
        (fun i9 hi9 => by exact F_kf i9 hi9),
        (fun i9 hi9 => by exact F_oc i9 hi9),
        (fun i9 hi9 => by exact F_va i9 hi9),
        (fun i9 hi9 => by exact F_lw i9 hi9),
        (fun i9 hi9 => by exact F_M i9 hi9), hzn, hT⟩
  have hfr : ∀ y, 302 ≤ y → f y = f y := (fun _ _ => rfl)
  refine x_Vi (q := 0) (As := [.int (nI i)]) (rest := []) ⟨hx, hb, hml, hown, hts⟩ (k_X5_isFile_yes l D ca N ad B tR tK f dd hN n g z zn tb hRk i (by omega) (by omega)) (cwV 1 hts gX5_cut_X5_isFile rfl rfl rfl (by decide +kernel) ⟨Nat.le_of_ble_eq_true rfl, Nat.le_of_ble_eq_true rfl⟩) hK hE hB hw (by omega) c_0 rfl rfl rfl rfl hl.1 (Nat.le_of_ble_eq_true rfl) ⟨Nat.zero_le _, Nat.zero_le _⟩ dX5_cut_2 (fun r_2 f_1 H locs hp hw => ?_)
  obtain ⟨er, hp⟩ := hp
  rw [← er]
  rw [← hp] at hw
  refine lv_if_ne (tgt := 10) hx hb dX5_cut_5 (by decide) (fun _ => ?_) (fun h => absurd h (by decide))
  have hs9 := hsz i (by omega)
  refine lv_aload_n hx hb dX5_cut_10 rfl (lv_at hl 0 rfl) ?_
  refine x_get (ci := 6) (C := RX5) (T := TX5) (n := 13) (ref := RX5) hx hb hts hin_6 hown hK hw 0 (by omega) c_0 rfl 6 (by decide) hf_49 (fun _ h => h) rfl dX5_cut_11 ?_
  refine lv_iload_n hx hb dX5_cut_14 rfl (lv_at hl 1 rfl) ?_
  refine x_aald (j := i) (a := ad (10 + 4 * i)) hx hb hK hw 9 3 (by omega) c_9 rfl rfl (by omega) (by decide) rfl dX5_cut_15 ?_
  have c_10_4_i : f (10 + 4 * i) = .inr (1, [.ref (ad (11 + 4 * i)), .ref (ad (13 + 4 * i)), .int (g 7 i), .int (g 8 i), .int (g 9 i), .int (g 10 i), .int (g 11 i), .int (g 12 i)]) := (F_kf i (by omega))
  refine x_getN (ci := 1) (C := RX0) (T := TX0) (n := 8) (ref := RX0) hx hb hts hin_1 hown hK hw (10 + 4 * i) (by omega) c_10_4_i rfl 0 (by decide) (hE.1 (103, "octets", "LFixityRows$Octets;") (by decide)) (fun _ h => h) rfl dX5_cut_16 ?_
  refine lv_astore_n (lv' := [(3, .ref (ad (11 + 4 * i))), (0, .ref (ad 0)), (1, .int (nI i)), (2, .int (nI j))]) hx hb dX5_cut_19 rfl hl (by decide) rfl (fun ls hl => ?_)
  refine lv_aload_n hx hb dX5_cut_20 rfl (lv_at hl 0 rfl) ?_
  have c_11_4_i : f (11 + 4 * i) = .inr (3, [.ref (ad (12 + 4 * i)), .int (nI (n (10 + i)))]) := (F_oc i (by omega))
  refine x_Vi (q := 11 + 4 * i) (As := []) (rest := []) ⟨hx, hb, hml, hown, hts⟩ (k_X2_count l D ca N ad B tR tK f dd (11 + 4 * i) (12 + 4 * i) (n (10 + i)) (by omega) c_11_4_i  ) (cwV 0 hts gX5_cut_X2_count rfl rfl rfl (by decide +kernel) ⟨Nat.le_of_ble_eq_true rfl, Nat.le_of_ble_eq_true rfl⟩) hK hE hB hw (by omega) c_11_4_i rfl rfl rfl rfl hl.1 (Nat.le_of_ble_eq_true rfl) ⟨Nat.zero_le _, Nat.zero_le _⟩ dX5_cut_21 (fun r_4 f_3 H locs hp hw => ?_)
  obtain ⟨er, eu⟩ := hp
  rw [← er]
  rw [← eu] at hw
  refine lv_istore (lv' := [(4, .int (nI (n (10 + i)))), (3, .ref (ad (11 + 4 * i))), (0, .ref (ad 0)), (1, .int (nI i)), (2, .int (nI j))]) hx hb dX5_cut_24 hl (by decide) rfl (fun ls hl => ?_)
  refine lv_iload_n hx hb dX5_cut_26 rfl (lv_at hl 4 rfl) ?_
  refine n_iflt (tgt := 36) hx hb dX5_cut_27 (by decide) (by omega) ?_
  refine lv_iload_n hx hb dX5_cut_30 rfl (lv_at hl 4 rfl) ?_
  refine lv_iload hx hb dX5_cut_31 (lv_at hl 0 rfl) ?_
  refine n_icle (tgt := 39) hx hb dX5_cut_33 (by decide) (by omega) (by omega) (fun hc_33 => ?_) (fun hc_33 => ?_)
  · refine lv_aload_n hx hb dX5_cut_39 rfl (lv_at hl 1 rfl) ?_
    refine lv_iload_n hx hb dX5_cut_40 rfl (lv_at hl 4 rfl) ?_
    refine x_Vv (q := 11 + 4 * i) (As := [.int (nI j)]) (rest := []) ⟨hx, hb, hml, hown, hts⟩ (k_X2_shorten_same l D ca N ad B tR tK f dd (11 + 4 * i) (12 + 4 * i) (n (10 + i)) j (by omega) c_11_4_i  (by omega) (by omega)) (cwV 1 hts gX5_cut_X2_shorten rfl rfl rfl (by decide +kernel) ⟨Nat.le_of_ble_eq_true rfl, Nat.le_of_ble_eq_true rfl⟩) hK hE hB hw (by omega) c_11_4_i rfl rfl rfl rfl hl.1 (Nat.le_of_ble_eq_true rfl) ⟨Nat.zero_le _, Nat.zero_le _⟩ dX5_cut_41 (fun f_5 H locs hp hw => ?_)
    have eu := hp
    rw [← eu] at hw
    refine lv_iload hx hb dX5_cut_44 (lv_at hl 0 rfl) ?_
    refine lv_iload_n hx hb dX5_cut_46 rfl (lv_at hl 4 rfl) ?_
    refine n_isub hx hb dX5_cut_47 (by omega) ?_
    have hRz : RepX ca ad n g z zn tb f := ⟨c_0,
          c_1,
          c_2,
          c_3,
          c_4,
          c_5,
          c_6,
          c_7,
          c_8,
          c_9,
          c_90,
          c_91,
          c_92,
          c_93,
          c_94,
          c_95,
          c_96,
          c_97,
          c_98,
          c_99,
          c_300,
          c_301,
          (fun i9 hi9 => by exact F_kf i9 hi9),
          (fun i9 hi9 => by exact F_oc i9 hi9),
          (fun i9 hi9 => by exact F_va i9 hi9),
          (fun i9 hi9 => by exact F_lw i9 hi9),
          (fun i9 hi9 => by exact F_M i9 hi9), hzn, hT⟩
    exact x_iret hx hb hr hlocks hw ⟨(by rw [hj, Nat.sub_self]), z, zn, hRz, (fun _ _ => rfl)⟩ dX5_cut_48
  · omega
