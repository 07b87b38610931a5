abbrev rmX5_matches : Room := { frames := 3, cells := 0, slots := 0, locals := 76 }

set_option maxHeartbeats 4000000 in
set_option maxRecDepth 100000 in
theorem k_X5_matches_yes (l : Launch) (D : va_G) (ca : Nat → ClassId) (N : Nat) (ad : Nat → Nat) (B tR tK : Nat) (f : Nat → va_E) (dd : xD N ad B) (hN : 302 ≤ N) (n : Nat → Nat) (g : Nat → Nat → Int32) (z : Nat → Nat → Int32) (zn : Nat) (tb : Nat → Int32) (hR : RepX ca ad n g z zn tb f) (i : Nat) (j : Nat) (hi : i < 20) (hj : j < 20) (hsz : ∀ i, i < 20 → n (10 + i) ≤ 200) (hf : fitsX n g i j) : xMi l yX5_matches wsX5_matches rmX5_matches [.ref (ad 0), .ref (ad (11 + 4 * i)), .ref (ad (10 + 4 * j))] D ca N ad B tR tK f (fun r u => nI 1 = r ∧ ∃ (z1 : Nat → Nat → Int32) (zn1 : Nat), RepX ca ad n g z1 zn1 tb u ∧ ∀ y, 302 ≤ y → u y = f y) := by
  refine x_open (cc := cX5_matches) (maxL := 3) (ret := (some .boolean)) (by decide) rfl (Nat.le_of_ble_eq_true rfl) ?_
  intro p e s m below meth c ls hx hb hml hown hts hr hlocks hnm hB hK hE hw hl
  have hown : s.vm.findClass RX5 = some m.cls := hown
  have hl : lv_has ls 3 [(0, .ref (ad 0)), (1, .ref (ad (11 + 4 * i))), (2, .ref (ad (10 + 4 * j)))] := hl
  obtain ⟨c_0, c_1, c_2, c_3, c_4, c_5, c_6, c_7, c_8, c_9, c_90, c_91, c_92, c_93, c_94, c_95, c_96, c_97, c_98, c_99, c_300, c_301, F_kf, F_oc, F_va, F_lw, F_M, hzn, hT⟩ := hR
  have hin_1 : ∀ w ∈ u_ws RX0 TX0 8, w ∈ wsX5_matches := by decide +kernel
  have hin_6 : ∀ w ∈ u_ws RX5 TX5 13, w ∈ wsX5_matches := by decide +kernel
  have hf_25 := hts (.fieldLink RX5 25 "FixityRows" "longDigest" "LFixityRows$LongDigest;") (by decide +kernel)
  have hf_32 := hts (.fieldLink RX5 32 "FixityRows" "shortDigest" "LFixityRows$ShortDigest;") (by decide +kernel)
  have b_0 := c_0
  have b_1 := c_1
  have b_2 := c_2
  have b_3 := c_3
  have b_4 := c_4
  have b_5 := c_5
  have b_6 := c_6
  have b_7 := c_7
  have b_8 := c_8
  have b_9 := c_9
  have b_90 := c_90
  have b_91 := c_91
  have b_92 := c_92
  have b_93 := c_93
  have b_94 := c_94
  have b_95 := c_95
  have b_96 := c_96
  have b_97 := c_97
  have b_98 := c_98
  have b_99 := c_99
  have b_300 := c_300
  have b_301 := c_301
  have hs9 := hsz i hi
  refine lv_aload_n hx hb dX5_matches_0 rfl (lv_at hl 2 rfl) ?_
  have c_10_4_j : f (10 + 4 * j) = .inr (1, [.ref (ad (11 + 4 * j)), .ref (ad (13 + 4 * j)), .int (g 7 j), .int (g 8 j), .int (g 9 j), .int (g 10 j), .int (g 11 j), .int (g 12 j)]) := (F_kf j (by omega))
  refine x_getN (ci := 1) (C := RX0) (T := TX0) (n := 8) (ref := RX0) hx hb hts hin_1 hown hK hw (10 + 4 * j) (by omega) c_10_4_j rfl 3 (by decide) (hE.1 (109, "algorithms", "I") (by decide)) (fun _ h => h) rfl dX5_matches_1 ?_
  refine lv_iconst (v := nI 2) hx hb dX5_matches_4 (by decide) ?_
  refine lv_iand hx hb dX5_matches_5 ?_
  refine lv_if_eq (tgt := 26) hx hb dX5_matches_6 (by decide) (fun hc_6 => ?_) (fun hc_6 => ?_)
  · refine lv_aload_n hx hb dX5_matches_26 rfl (lv_at hl 2 rfl) ?_
    refine x_getN (ci := 1) (C := RX0) (T := TX0) (n := 8) (ref := RX0) hx hb hts hin_1 hown hK hw (10 + 4 * j) (by omega) c_10_4_j rfl 3 (by decide) (hE.1 (109, "algorithms", "I") (by decide)) (fun _ h => h) rfl dX5_matches_27 ?_
    refine lv_iconst (v := nI 1) hx hb dX5_matches_30 (by decide) ?_
    refine lv_iand hx hb dX5_matches_31 ?_
    refine lv_if_ne (tgt := 37) hx hb dX5_matches_32 (by decide) (fun hc_32 => ?_) (fun hc_32 => ?_)
    · refine lv_aload_n hx hb dX5_matches_37 rfl (lv_at hl 0 rfl) ?_
      refine x_get (ci := 6) (C := RX5) (T := TX5) (n := 13) (ref := RX5) hx hb hts hin_6 hown hK hw 0 (by omega) c_0 rfl 1 (by decide) hf_25 (fun _ h => h) rfl dX5_matches_38 ?_
      refine lv_aload_n hx hb dX5_matches_41 rfl (lv_at hl 1 rfl) ?_
      have c_11_4_i : f (11 + 4 * i) = .inr (3, [.ref (ad (12 + 4 * i)), .int (nI (n (10 + i)))]) := (F_oc i (by omega))
      have c_12_4_i : f (12 + 4 * i) = ai (ca 0) 200 (g (100 + i)) := (F_va i (by omega))
      refine x_Vv (q := 1) (As := [.ref (ad (11 + 4 * i))]) (rest := []) ⟨hx, hb, hml, hown, hts⟩ (k_X1_compute l D ca N ad B tR tK f dd 1 2 3 (z 0) (z 1) (11 + 4 * i) (12 + 4 * i) (n (10 + i)) (g (100 + i)) (by omega) c_1 (by omega) c_2 (by omega) c_3 (by omega) c_11_4_i (by omega) c_12_4_i  (by omega) (by omega) (by omega) (by omega)) (cwV 1 hts gX5_matches_X1_compute rfl rfl rfl (by decide +kernel) ⟨Nat.le_of_ble_eq_true rfl, Nat.le_of_ble_eq_true rfl⟩) hK hE hB hw (by omega) c_1 rfl rfl rfl rfl hl.1 (Nat.le_of_ble_eq_true rfl) ⟨Nat.zero_le _, Nat.zero_le _⟩ dX5_matches_42 (fun f_1 H locs hp hw => ?_)
      obtain ⟨w1_3, e1_4, hq_5, eu⟩ := hp
      have ef_1 : f_1 = va_up (va_up f 3 (ai (ca 0) 64 w1_3)) 2 (ai (ca 0) 8 e1_4) := eu
      have c_3 : f_1 3 = ai (ca 0) 64 w1_3 := by rw [ef_1, va_up_ne _ _ (by decide), va_up_self]
      have c_2 : f_1 2 = ai (ca 0) 8 e1_4 := by rw [ef_1, va_up_self]
      refine lv_aload_n hx hb dX5_matches_45 rfl (lv_at hl 0 rfl) ?_
      have c_0 : f_1 0 = .inr (6, [.int (nI (n 0)), .ref (ad 1), .ref (ad 4), .ref (ad 6), .ref (ad 8), .int (nI (n 1)), .ref (ad 9), .int (nI (n 2)), .ref (ad 90), .ref (ad 300), .ref (ad 301), .int (nI (n 3)), .int (g 13 0)]) := by rw [ef_1, va_up_ne _ _ (by decide), va_up_ne _ _ (by decide)]; exact c_0
      refine x_get (ci := 6) (C := RX5) (T := TX5) (n := 13) (ref := RX5) hx hb hts hin_6 hown hK hw 0 (by omega) c_0 rfl 1 (by decide) hf_25 (fun _ h => h) rfl dX5_matches_46 ?_
      refine lv_aload_n hx hb dX5_matches_49 rfl (lv_at hl 2 rfl) ?_
      have c_10_4_j : f_1 (10 + 4 * j) = .inr (1, [.ref (ad (11 + 4 * j)), .ref (ad (13 + 4 * j)), .int (g 7 j), .int (g 8 j), .int (g 9 j), .int (g 10 j), .int (g 11 j), .int (g 12 j)]) := by rw [ef_1, va_up_ne _ _ (by omega), va_up_ne _ _ (by omega)]; exact c_10_4_j
      refine x_getN (ci := 1) (C := RX0) (T := TX0) (n := 8) (ref := RX0) hx hb hts hin_1 hown hK hw (10 + 4 * j) (by omega) c_10_4_j rfl 1 (by decide) (hE.1 (112, "longWords", "[I") (by decide)) (fun _ h => h) rfl dX5_matches_50 ?_
      have c_1 : f_1 1 = .inr (2, [.ref (ad 2), .ref (ad 3)]) := by rw [ef_1, va_up_ne _ _ (by decide), va_up_ne _ _ (by decide)]; exact c_1
      have c_13_4_j : f_1 (13 + 4 * j) = ai (ca 0) 8 (g (200 + j)) := by rw [ef_1, va_up_ne _ _ (by omega), va_up_ne _ _ (by omega)]; exact (F_lw j (by omega))
      refine x_Vi (q := 1) (As := [.ref (ad (13 + 4 * j))]) (rest := []) ⟨hx, hb, hml, hown, hts⟩ (k_X1_equalTo_yes l D ca N ad B tR tK f_1 dd 1 2 3 e1_4 (13 + 4 * j) (g (200 + j)) (by omega) c_1 (by omega) c_2 (by omega) c_13_4_j  (fun k hk => (hf.2 hc_32 k hk).trans (hq_5 k hk).symm)) (cwV 1 hts gX5_matches_X1_equalTo rfl rfl rfl (by decide +kernel) ⟨Nat.le_of_ble_eq_true rfl, Nat.le_of_ble_eq_true rfl⟩) hK hE hB hw (by omega) c_1 rfl rfl rfl rfl hl.1 (Nat.le_of_ble_eq_true rfl) ⟨Nat.zero_le _, Nat.zero_le _⟩ dX5_matches_53 (fun r_7 f_6 H locs hp hw => ?_)
      obtain ⟨er, eu⟩ := hp
      rw [← er]
      rw [← eu] at hw
      have c_4 : f_1 4 = .inr (5, [.ref (ad 5)]) := by rw [ef_1, va_up_ne _ _ (by decide), va_up_ne _ _ (by decide)]; exact c_4
      have c_5 : f_1 5 = ai (ca 0) 256 tb := by rw [ef_1, va_up_ne _ _ (by decide), va_up_ne _ _ (by decide)]; exact c_5
      have c_6 : f_1 6 = .inr (3, [.ref (ad 7), .int (nI (n 4))]) := by rw [ef_1, va_up_ne _ _ (by decide), va_up_ne _ _ (by decide)]; exact c_6
      have c_7 : f_1 7 = ai (ca 0) 200 (g 0) := by rw [ef_1, va_up_ne _ _ (by decide), va_up_ne _ _ (by decide)]; exact c_7
      have c_8 : f_1 8 = ai (ca 0) 8 (g 1) := by rw [ef_1, va_up_ne _ _ (by decide), va_up_ne _ _ (by decide)]; exact c_8
      have c_9 : f_1 9 = aq (ca 3) 20 (fun i => some (ad (10 + 4 * i))) := by rw [ef_1, va_up_ne _ _ (by decide), va_up_ne _ _ (by decide)]; exact c_9
      have c_90 : f_1 90 = .inr (4, [.ref (ad 91), .ref (ad 94), .ref (ad 96), .ref (ad 97), .ref (ad 98), .ref (ad 99), .int (nI (n 5))]) := by rw [ef_1, va_up_ne _ _ (by decide), va_up_ne _ _ (by decide)]; exact c_90
      have c_91 : f_1 91 = .inr (2, [.ref (ad 92), .ref (ad 93)]) := by rw [ef_1, va_up_ne _ _ (by decide), va_up_ne _ _ (by decide)]; exact c_91
      have c_92 : f_1 92 = ai (ca 0) 8 (z 2) := by rw [ef_1, va_up_ne _ _ (by decide), va_up_ne _ _ (by decide)]; exact c_92
      have c_93 : f_1 93 = ai (ca 0) 64 (z 3) := by rw [ef_1, va_up_ne _ _ (by decide), va_up_ne _ _ (by decide)]; exact c_93
      have c_94 : f_1 94 = .inr (3, [.ref (ad 95), .int (nI zn)]) := by rw [ef_1, va_up_ne _ _ (by decide), va_up_ne _ _ (by decide)]; exact c_94
      have c_95 : f_1 95 = ai (ca 0) 200 (z 4) := by rw [ef_1, va_up_ne _ _ (by decide), va_up_ne _ _ (by decide)]; exact c_95
      have c_96 : f_1 96 = ai (ca 0) 200 (g 4) := by rw [ef_1, va_up_ne _ _ (by decide), va_up_ne _ _ (by decide)]; exact c_96
      have c_97 : f_1 97 = ai (ca 0) 200 (g 5) := by rw [ef_1, va_up_ne _ _ (by decide), va_up_ne _ _ (by decide)]; exact c_97
      have c_98 : f_1 98 = ai (ca 0) 200 (g 6) := by rw [ef_1, va_up_ne _ _ (by decide), va_up_ne _ _ (by decide)]; exact c_98
      have c_99 : f_1 99 = aq (ca 4) 200 (fun i => some (ad (100 + i))) := by rw [ef_1, va_up_ne _ _ (by decide), va_up_ne _ _ (by decide)]; exact c_99
      have c_300 : f_1 300 = ai (ca 0) 20 (g 2) := by rw [ef_1, va_up_ne _ _ (by decide), va_up_ne _ _ (by decide)]; exact c_300
      have c_301 : f_1 301 = ai (ca 2) 20 (g 3) := by rw [ef_1, va_up_ne _ _ (by decide), va_up_ne _ _ (by decide)]; exact c_301
      have qz_0 : (va_up (va_up z 0 e1_4) 1 w1_3) 0 = e1_4 := by rw [va_up_ne _ _ (by decide), va_up_self]
      have qz_1 : (va_up (va_up z 0 e1_4) 1 w1_3) 1 = w1_3 := by rw [va_up_self]
      have qz_2 : (va_up (va_up z 0 e1_4) 1 w1_3) 2 = z 2 := by rw [va_up_ne _ _ (by decide), va_up_ne _ _ (by decide)]
      have qz_3 : (va_up (va_up z 0 e1_4) 1 w1_3) 3 = z 3 := by rw [va_up_ne _ _ (by decide), va_up_ne _ _ (by decide)]
      have qz_4 : (va_up (va_up z 0 e1_4) 1 w1_3) 4 = z 4 := by rw [va_up_ne _ _ (by decide), va_up_ne _ _ (by decide)]
      have hRz : RepX ca ad n g (va_up (va_up z 0 e1_4) 1 w1_3) zn tb f_1 := ⟨c_0,
            c_1,
            (by rw [qz_0]; exact c_2),
            (by rw [qz_1]; exact c_3),
            c_4,
            c_5,
            c_6,
            c_7,
            c_8,
            c_9,
            c_90,
            c_91,
            (by rw [qz_2]; exact c_92),
            (by rw [qz_3]; exact c_93),
            c_94,
            (by rw [qz_4]; exact c_95),
            c_96,
            c_97,
            c_98,
            c_99,
            c_300,
            c_301,
            (fun i9 hi9 => by rw [ef_1, va_up_ne _ _ (by omega), va_up_ne _ _ (by omega)]; exact F_kf i9 hi9),
            (fun i9 hi9 => by rw [ef_1, va_up_ne _ _ (by omega), va_up_ne _ _ (by omega)]; exact F_oc i9 hi9),
            (fun i9 hi9 => by rw [ef_1, va_up_ne _ _ (by omega), va_up_ne _ _ (by omega)]; exact F_va i9 hi9),
            (fun i9 hi9 => by rw [ef_1, va_up_ne _ _ (by omega), va_up_ne _ _ (by omega)]; exact F_lw i9 hi9),
            (fun i9 hi9 => by rw [ef_1, va_up_ne _ _ (by omega), va_up_ne _ _ (by omega)]; exact F_M i9 hi9), hzn, hT⟩
      exact x_zret hx hb hr hlocks hw (by first | exact Or.inl rfl | exact Or.inr rfl) ⟨rfl, va_up (va_up z 0 e1_4) 1 w1_3, zn, hRz, (fun y hy => by rw [ef_1, va_up_ne _ _ (by omega), va_up_ne _ _ (by omega)])⟩ dX5_matches_56
    · refine lv_iconst (v := nI 1) hx hb dX5_matches_35 (by decide) ?_
      have hRz : RepX ca ad n g z zn tb f := ⟨c_0,
            c_1,
            c_2,
            c_3,
            c_4,
            c_5,
            c_6,
            c_7,
            c_8,
            c_9,
            c_90,
            c_91,
            c_92,
            c_93,
            c_94,
            c_95,
            c_96,
            c_97,
            c_98,
            c_99,
            c_300,
            c_301,
            (fun i9 hi9 => by exact F_kf i9 hi9),
            (fun i9 hi9 => by exact F_oc i9 hi9),
            (fun i9 hi9 => by exact F_va i9 hi9),
            (fun i9 hi9 => by exact F_lw i9 hi9),
            (fun i9 hi9 => by exact F_M i9 hi9), hzn, hT⟩
      exact x_zret hx hb hr hlocks hw (by first | exact Or.inl rfl | exact Or.inr rfl) ⟨rfl, z, zn, hRz, (fun _ _ => rfl)⟩ dX5_matches_36
  · refine lv_aload_n hx hb dX5_matches_9 rfl (lv_at hl 0 rfl) ?_
    refine x_get (ci := 6) (C := RX5) (T := TX5) (n := 13) (ref := RX5) hx hb hts hin_6 hown hK hw 0 (by omega) c_0 rfl 2 (by decide) hf_32 (fun _ h => h) rfl dX5_matches_10 ?_
    refine lv_aload_n hx hb dX5_matches_13 rfl (lv_at hl 1 rfl) ?_
    have c_11_4_i : f (11 + 4 * i) = .inr (3, [.ref (ad (12 + 4 * i)), .int (nI (n (10 + i)))]) := (F_oc i (by omega))
    have c_12_4_i : f (12 + 4 * i) = ai (ca 0) 200 (g (100 + i)) := (F_va i (by omega))
    refine x_Vi (q := 4) (As := [.ref (ad (11 + 4 * i))]) (rest := []) ⟨hx, hb, hml, hown, hts⟩ (k_X4_compute l D ca N ad B tR tK f dd 4 5 tb (11 + 4 * i) (12 + 4 * i) (n (10 + i)) (g (100 + i)) (by omega) c_4 (by omega) c_5 (by omega) c_11_4_i (by omega) c_12_4_i  (by omega) hT) (cwV 1 hts gX5_matches_X4_compute rfl rfl rfl (by decide +kernel) ⟨Nat.le_of_ble_eq_true rfl, Nat.le_of_ble_eq_true rfl⟩) hK hE hB hw (by omega) c_4 rfl rfl rfl rfl hl.1 (Nat.le_of_ble_eq_true rfl) ⟨Nat.zero_le _, Nat.zero_le _⟩ dX5_matches_14 (fun r_9 f_8 H locs hp hw => ?_)
    obtain ⟨er, eu⟩ := hp
    rw [← er]
    rw [← eu] at hw
    refine lv_aload_n hx hb dX5_matches_17 rfl (lv_at hl 2 rfl) ?_
    refine x_getN (ci := 1) (C := RX0) (T := TX0) (n := 8) (ref := RX0) hx hb hts hin_1 hown hK hw (10 + 4 * j) (by omega) c_10_4_j rfl 2 (by decide) (hE.1 (115, "shortWord", "I") (by decide)) (fun _ h => h) rfl dX5_matches_18 ?_
    refine lv_icmp_eq (tgt := 26) hx hb dX5_matches_21 (by decide) (fun hc_21 => ?_) (fun hc_21 => ?_)
    · refine lv_aload_n hx hb dX5_matches_26 rfl (lv_at hl 2 rfl) ?_
      refine x_getN (ci := 1) (C := RX0) (T := TX0) (n := 8) (ref := RX0) hx hb hts hin_1 hown hK hw (10 + 4 * j) (by omega) c_10_4_j rfl 3 (by decide) (hE.1 (109, "algorithms", "I") (by decide)) (fun _ h => h) rfl dX5_matches_27 ?_
      refine lv_iconst (v := nI 1) hx hb dX5_matches_30 (by decide) ?_
      refine lv_iand hx hb dX5_matches_31 ?_
      refine lv_if_ne (tgt := 37) hx hb dX5_matches_32 (by decide) (fun hc_32 => ?_) (fun hc_32 => ?_)
      · refine lv_aload_n hx hb dX5_matches_37 rfl (lv_at hl 0 rfl) ?_
        refine x_get (ci := 6) (C := RX5) (T := TX5) (n := 13) (ref := RX5) hx hb hts hin_6 hown hK hw 0 (by omega) c_0 rfl 1 (by decide) hf_25 (fun _ h => h) rfl dX5_matches_38 ?_
        refine lv_aload_n hx hb dX5_matches_41 rfl (lv_at hl 1 rfl) ?_
        refine x_Vv (q := 1) (As := [.ref (ad (11 + 4 * i))]) (rest := []) ⟨hx, hb, hml, hown, hts⟩ (k_X1_compute l D ca N ad B tR tK f dd 1 2 3 (z 0) (z 1) (11 + 4 * i) (12 + 4 * i) (n (10 + i)) (g (100 + i)) (by omega) c_1 (by omega) c_2 (by omega) c_3 (by omega) c_11_4_i (by omega) c_12_4_i  (by omega) (by omega) (by omega) (by omega)) (cwV 1 hts gX5_matches_X1_compute rfl rfl rfl (by decide +kernel) ⟨Nat.le_of_ble_eq_true rfl, Nat.le_of_ble_eq_true rfl⟩) hK hE hB hw (by omega) c_1 rfl rfl rfl rfl hl.1 (Nat.le_of_ble_eq_true rfl) ⟨Nat.zero_le _, Nat.zero_le _⟩ dX5_matches_42 (fun f_10 H locs hp hw => ?_)
        obtain ⟨w1_12, e1_13, hq_14, eu⟩ := hp
        have ef_10 : f_10 = va_up (va_up f 3 (ai (ca 0) 64 w1_12)) 2 (ai (ca 0) 8 e1_13) := eu
        have c_3 : f_10 3 = ai (ca 0) 64 w1_12 := by rw [ef_10, va_up_ne _ _ (by decide), va_up_self]
        have c_2 : f_10 2 = ai (ca 0) 8 e1_13 := by rw [ef_10, va_up_self]
        refine lv_aload_n hx hb dX5_matches_45 rfl (lv_at hl 0 rfl) ?_
        have c_0 : f_10 0 = .inr (6, [.int (nI (n 0)), .ref (ad 1), .ref (ad 4), .ref (ad 6), .ref (ad 8), .int (nI (n 1)), .ref (ad 9), .int (nI (n 2)), .ref (ad 90), .ref (ad 300), .ref (ad 301), .int (nI (n 3)), .int (g 13 0)]) := by rw [ef_10, va_up_ne _ _ (by decide), va_up_ne _ _ (by decide)]; exact c_0
        refine x_get (ci := 6) (C := RX5) (T := TX5) (n := 13) (ref := RX5) hx hb hts hin_6 hown hK hw 0 (by omega) c_0 rfl 1 (by decide) hf_25 (fun _ h => h) rfl dX5_matches_46 ?_
        refine lv_aload_n hx hb dX5_matches_49 rfl (lv_at hl 2 rfl) ?_
        have c_10_4_j : f_10 (10 + 4 * j) = .inr (1, [.ref (ad (11 + 4 * j)), .ref (ad (13 + 4 * j)), .int (g 7 j), .int (g 8 j), .int (g 9 j), .int (g 10 j), .int (g 11 j), .int (g 12 j)]) := by rw [ef_10, va_up_ne _ _ (by omega), va_up_ne _ _ (by omega)]; exact c_10_4_j
        refine x_getN (ci := 1) (C := RX0) (T := TX0) (n := 8) (ref := RX0) hx hb hts hin_1 hown hK hw (10 + 4 * j) (by omega) c_10_4_j rfl 1 (by decide) (hE.1 (112, "longWords", "[I") (by decide)) (fun _ h => h) rfl dX5_matches_50 ?_
        have c_1 : f_10 1 = .inr (2, [.ref (ad 2), .ref (ad 3)]) := by rw [ef_10, va_up_ne _ _ (by decide), va_up_ne _ _ (by decide)]; exact c_1
        have c_13_4_j : f_10 (13 + 4 * j) = ai (ca 0) 8 (g (200 + j)) := by rw [ef_10, va_up_ne _ _ (by omega), va_up_ne _ _ (by omega)]; exact (F_lw j (by omega))
        refine x_Vi (q := 1) (As := [.ref (ad (13 + 4 * j))]) (rest := []) ⟨hx, hb, hml, hown, hts⟩ (k_X1_equalTo_yes l D ca N ad B tR tK f_10 dd 1 2 3 e1_13 (13 + 4 * j) (g (200 + j)) (by omega) c_1 (by omega) c_2 (by omega) c_13_4_j  (fun k hk => (hf.2 hc_32 k hk).trans (hq_14 k hk).symm)) (cwV 1 hts gX5_matches_X1_equalTo rfl rfl rfl (by decide +kernel) ⟨Nat.le_of_ble_eq_true rfl, Nat.le_of_ble_eq_true rfl⟩) hK hE hB hw (by omega) c_1 rfl rfl rfl rfl hl.1 (Nat.le_of_ble_eq_true rfl) ⟨Nat.zero_le _, Nat.zero_le _⟩ dX5_matches_53 (fun r_16 f_15 H locs hp hw => ?_)
        obtain ⟨er, eu⟩ := hp
        rw [← er]
        rw [← eu] at hw
        have c_4 : f_10 4 = .inr (5, [.ref (ad 5)]) := by rw [ef_10, va_up_ne _ _ (by decide), va_up_ne _ _ (by decide)]; exact c_4
        have c_5 : f_10 5 = ai (ca 0) 256 tb := by rw [ef_10, va_up_ne _ _ (by decide), va_up_ne _ _ (by decide)]; exact c_5
        have c_6 : f_10 6 = .inr (3, [.ref (ad 7), .int (nI (n 4))]) := by rw [ef_10, va_up_ne _ _ (by decide), va_up_ne _ _ (by decide)]; exact c_6
        have c_7 : f_10 7 = ai (ca 0) 200 (g 0) := by rw [ef_10, va_up_ne _ _ (by decide), va_up_ne _ _ (by decide)]; exact c_7
        have c_8 : f_10 8 = ai (ca 0) 8 (g 1) := by rw [ef_10, va_up_ne _ _ (by decide), va_up_ne _ _ (by decide)]; exact c_8
        have c_9 : f_10 9 = aq (ca 3) 20 (fun i => some (ad (10 + 4 * i))) := by rw [ef_10, va_up_ne _ _ (by decide), va_up_ne _ _ (by decide)]; exact c_9
        have c_90 : f_10 90 = .inr (4, [.ref (ad 91), .ref (ad 94), .ref (ad 96), .ref (ad 97), .ref (ad 98), .ref (ad 99), .int (nI (n 5))]) := by rw [ef_10, va_up_ne _ _ (by decide), va_up_ne _ _ (by decide)]; exact c_90
        have c_91 : f_10 91 = .inr (2, [.ref (ad 92), .ref (ad 93)]) := by rw [ef_10, va_up_ne _ _ (by decide), va_up_ne _ _ (by decide)]; exact c_91
        have c_92 : f_10 92 = ai (ca 0) 8 (z 2) := by rw [ef_10, va_up_ne _ _ (by decide), va_up_ne _ _ (by decide)]; exact c_92
        have c_93 : f_10 93 = ai (ca 0) 64 (z 3) := by rw [ef_10, va_up_ne _ _ (by decide), va_up_ne _ _ (by decide)]; exact c_93
        have c_94 : f_10 94 = .inr (3, [.ref (ad 95), .int (nI zn)]) := by rw [ef_10, va_up_ne _ _ (by decide), va_up_ne _ _ (by decide)]; exact c_94
        have c_95 : f_10 95 = ai (ca 0) 200 (z 4) := by rw [ef_10, va_up_ne _ _ (by decide), va_up_ne _ _ (by decide)]; exact c_95
        have c_96 : f_10 96 = ai (ca 0) 200 (g 4) := by rw [ef_10, va_up_ne _ _ (by decide), va_up_ne _ _ (by decide)]; exact c_96
        have c_97 : f_10 97 = ai (ca 0) 200 (g 5) := by rw [ef_10, va_up_ne _ _ (by decide), va_up_ne _ _ (by decide)]; exact c_97
        have c_98 : f_10 98 = ai (ca 0) 200 (g 6) := by rw [ef_10, va_up_ne _ _ (by decide), va_up_ne _ _ (by decide)]; exact c_98
        have c_99 : f_10 99 = aq (ca 4) 200 (fun i => some (ad (100 + i))) := by rw [ef_10, va_up_ne _ _ (by decide), va_up_ne _ _ (by decide)]; exact c_99
        have c_300 : f_10 300 = ai (ca 0) 20 (g 2) := by rw [ef_10, va_up_ne _ _ (by decide), va_up_ne _ _ (by decide)]; exact c_300
        have c_301 : f_10 301 = ai (ca 2) 20 (g 3) := by rw [ef_10, va_up_ne _ _ (by decide), va_up_ne _ _ (by decide)]; exact c_301
        have qz_0 : (va_up (va_up z 0 e1_13) 1 w1_12) 0 = e1_13 := by rw [va_up_ne _ _ (by decide), va_up_self]
        have qz_1 : (va_up (va_up z 0 e1_13) 1 w1_12) 1 = w1_12 := by rw [va_up_self]
        have qz_2 : (va_up (va_up z 0 e1_13) 1 w1_12) 2 = z 2 := by rw [va_up_ne _ _ (by decide), va_up_ne _ _ (by decide)]
        have qz_3 : (va_up (va_up z 0 e1_13) 1 w1_12) 3 = z 3 := by rw [va_up_ne _ _ (by decide), va_up_ne _ _ (by decide)]
        have qz_4 : (va_up (va_up z 0 e1_13) 1 w1_12) 4 = z 4 := by rw [va_up_ne _ _ (by decide), va_up_ne _ _ (by decide)]
        have hRz : RepX ca ad n g (va_up (va_up z 0 e1_13) 1 w1_12) zn tb f_10 := ⟨c_0,
              c_1,
              (by rw [qz_0]; exact c_2),
              (by rw [qz_1]; exact c_3),
              c_4,
              c_5,
              c_6,
              c_7,
              c_8,
              c_9,
              c_90,
              c_91,
              (by rw [qz_2]; exact c_92),
              (by rw [qz_3]; exact c_93),
              c_94,
              (by rw [qz_4]; exact c_95),
              c_96,
              c_97,
              c_98,
              c_99,
              c_300,
              c_301,
              (fun i9 hi9 => by rw [ef_10, va_up_ne _ _ (by omega), va_up_ne _ _ (by omega)]; exact F_kf i9 hi9),
              (fun i9 hi9 => by rw [ef_10, va_up_ne _ _ (by omega), va_up_ne _ _ (by omega)]; exact F_oc i9 hi9),
              (fun i9 hi9 => by rw [ef_10, va_up_ne _ _ (by omega), va_up_ne _ _ (by omega)]; exact F_va i9 hi9),
              (fun i9 hi9 => by rw [ef_10, va_up_ne _ _ (by omega), va_up_ne _ _ (by omega)]; exact F_lw i9 hi9),
              (fun i9 hi9 => by rw [ef_10, va_up_ne _ _ (by omega), va_up_ne _ _ (by omega)]; exact F_M i9 hi9), hzn, hT⟩
        exact x_zret hx hb hr hlocks hw (by first | exact Or.inl rfl | exact Or.inr rfl) ⟨rfl, va_up (va_up z 0 e1_13) 1 w1_12, zn, hRz, (fun y hy => by rw [ef_10, va_up_ne _ _ (by omega), va_up_ne _ _ (by omega)])⟩ dX5_matches_56
      · refine lv_iconst (v := nI 1) hx hb dX5_matches_35 (by decide) ?_
        have hRz : RepX ca ad n g z zn tb f := ⟨c_0,
              c_1,
              c_2,
              c_3,
              c_4,
              c_5,
              c_6,
              c_7,
              c_8,
              c_9,
              c_90,
              c_91,
              c_92,
              c_93,
              c_94,
              c_95,
              c_96,
              c_97,
              c_98,
              c_99,
              c_300,
              c_301,
              (fun i9 hi9 => by exact F_kf i9 hi9),
              (fun i9 hi9 => by exact F_oc i9 hi9),
              (fun i9 hi9 => by exact F_va i9 hi9),
              (fun i9 hi9 => by exact F_lw i9 hi9),
              (fun i9 hi9 => by exact F_M i9 hi9), hzn, hT⟩
        exact x_zret hx hb hr hlocks hw (by first | exact Or.inl rfl | exact Or.inr rfl) ⟨rfl, z, zn, hRz, (fun _ _ => rfl)⟩ dX5_matches_36
    · exact absurd (hf.1 hc_6) hc_21

set_option maxHeartbeats 4000000 in
set_option maxRecDepth 100000 in
theorem k_X5_matches_no (l : Launch) (D : va_G) (ca : Nat → ClassId) (N : Nat) (ad : Nat → Nat) (B tR tK : Nat) (f : Nat → va_E) (dd : xD N ad B) (hN : 302 ≤ N) (n : Nat → Nat) (g : Nat → Nat → Int32) (z : Nat → Nat → Int32) (zn : Nat) (tb : Nat → Int32) (hR : RepX ca ad n g z zn tb f) (i : Nat) (j : Nat) (hi : i < 20) (hj : j < 20) (hsz : ∀ i, i < 20 → n (10 + i) ≤ 200) (hf : ¬ fitsX n g i j) : xMi l yX5_matches wsX5_matches rmX5_matches [.ref (ad 0), .ref (ad (11 + 4 * i)), .ref (ad (10 + 4 * j))] D ca N ad B tR tK f (fun r u => nI 0 = r ∧ ∃ (z1 : Nat → Nat → Int32) (zn1 : Nat), RepX ca ad n g z1 zn1 tb u ∧ ∀ y, 302 ≤ y → u y = f y) := by
  refine x_open (cc := cX5_matches) (maxL := 3) (ret := (some .boolean)) (by decide) rfl (Nat.le_of_ble_eq_true rfl) ?_
  intro p e s m below meth c ls hx hb hml hown hts hr hlocks hnm hB hK hE hw hl
  have hown : s.vm.findClass RX5 = some m.cls := hown
  have hl : lv_has ls 3 [(0, .ref (ad 0)), (1, .ref (ad (11 + 4 * i))), (2, .ref (ad (10 + 4 * j)))] := hl
  obtain ⟨c_0, c_1, c_2, c_3, c_4, c_5, c_6, c_7, c_8, c_9, c_90, c_91, c_92, c_93, c_94, c_95, c_96, c_97, c_98, c_99, c_300, c_301, F_kf, F_oc, F_va, F_lw, F_M, hzn, hT⟩ := hR
  have hin_1 : ∀ w ∈ u_ws RX0 TX0 8, w ∈ wsX5_matches := by decide +kernel
  have hin_6 : ∀ w ∈ u_ws RX5 TX5 13, w ∈ wsX5_matches := by decide +kernel
  have hf_25 := hts (.fieldLink RX5 25 "FixityRows" "longDigest" "LFixityRows$LongDigest;") (by decide +kernel)
  have hf_32 := hts (.fieldLink RX5 32 "FixityRows" "shortDigest" "LFixityRows$ShortDigest;") (by decide +kernel)
  have b_0 := c_0
  have b_1 := c_1
  have b_2 := c_2
  have b_3 := c_3
  have b_4 := c_4
  have b_5 := c_5
  have b_6 := c_6
  have b_7 := c_7
  have b_8 := c_8
  have b_9 := c_9
  have b_90 := c_90
  have b_91 := c_91
  have b_92 := c_92
  have b_93 := c_93
  have b_94 := c_94
  have b_95 := c_95
  have b_96 := c_96
  have b_97 := c_97
  have b_98 := c_98
  have b_99 := c_99
  have b_300 := c_300
  have b_301 := c_301
  have hs9 := hsz i hi
  refine lv_aload_n hx hb dX5_matches_0 rfl (lv_at hl 2 rfl) ?_
  have c_10_4_j : f (10 + 4 * j) = .inr (1, [.ref (ad (11 + 4 * j)), .ref (ad (13 + 4 * j)), .int (g 7 j), .int (g 8 j), .int (g 9 j), .int (g 10 j), .int (g 11 j), .int (g 12 j)]) := (F_kf j (by omega))
  refine x_getN (ci := 1) (C := RX0) (T := TX0) (n := 8) (ref := RX0) hx hb hts hin_1 hown hK hw (10 + 4 * j) (by omega) c_10_4_j rfl 3 (by decide) (hE.1 (109, "algorithms", "I") (by decide)) (fun _ h => h) rfl dX5_matches_1 ?_
  refine lv_iconst (v := nI 2) hx hb dX5_matches_4 (by decide) ?_
  refine lv_iand hx hb dX5_matches_5 ?_
  refine lv_if_eq (tgt := 26) hx hb dX5_matches_6 (by decide) (fun hc_6 => ?_) (fun hc_6 => ?_)
  · refine lv_aload_n hx hb dX5_matches_26 rfl (lv_at hl 2 rfl) ?_
    refine x_getN (ci := 1) (C := RX0) (T := TX0) (n := 8) (ref := RX0) hx hb hts hin_1 hown hK hw (10 + 4 * j) (by omega) c_10_4_j rfl 3 (by decide) (hE.1 (109, "algorithms", "I") (by decide)) (fun _ h => h) rfl dX5_matches_27 ?_
    refine lv_iconst (v := nI 1) hx hb dX5_matches_30 (by decide) ?_
    refine lv_iand hx hb dX5_matches_31 ?_
    refine lv_if_ne (tgt := 37) hx hb dX5_matches_32 (by decide) (fun hc_32 => ?_) (fun hc_32 => ?_)
    · refine lv_aload_n hx hb dX5_matches_37 rfl (lv_at hl 0 rfl) ?_
      refine x_get (ci := 6) (C := RX5) (T := TX5) (n := 13) (ref := RX5) hx hb hts hin_6 hown hK hw 0 (by omega) c_0 rfl 1 (by decide) hf_25 (fun _ h => h) rfl dX5_matches_38 ?_
      refine lv_aload_n hx hb dX5_matches_41 rfl (lv_at hl 1 rfl) ?_
      have c_11_4_i : f (11 + 4 * i) = .inr (3, [.ref (ad (12 + 4 * i)), .int (nI (n (10 + i)))]) := (F_oc i (by omega))
      have c_12_4_i : f (12 + 4 * i) = ai (ca 0) 200 (g (100 + i)) := (F_va i (by omega))
      refine x_Vv (q := 1) (As := [.ref (ad (11 + 4 * i))]) (rest := []) ⟨hx, hb, hml, hown, hts⟩ (k_X1_compute l D ca N ad B tR tK f dd 1 2 3 (z 0) (z 1) (11 + 4 * i) (12 + 4 * i) (n (10 + i)) (g (100 + i)) (by omega) c_1 (by omega) c_2 (by omega) c_3 (by omega) c_11_4_i (by omega) c_12_4_i  (by omega) (by omega) (by omega) (by omega)) (cwV 1 hts gX5_matches_X1_compute rfl rfl rfl (by decide +kernel) ⟨Nat.le_of_ble_eq_true rfl, Nat.le_of_ble_eq_true rfl⟩) hK hE hB hw (by omega) c_1 rfl rfl rfl rfl hl.1 (Nat.le_of_ble_eq_true rfl) ⟨Nat.zero_le _, Nat.zero_le _⟩ dX5_matches_42 (fun f_1 H locs hp hw => ?_)
      obtain ⟨w1_3, e1_4, hq_5, eu⟩ := hp
      have ef_1 : f_1 = va_up (va_up f 3 (ai (ca 0) 64 w1_3)) 2 (ai (ca 0) 8 e1_4) := eu
      have c_3 : f_1 3 = ai (ca 0) 64 w1_3 := by rw [ef_1, va_up_ne _ _ (by decide), va_up_self]
      have c_2 : f_1 2 = ai (ca 0) 8 e1_4 := by rw [ef_1, va_up_self]
      refine lv_aload_n hx hb dX5_matches_45 rfl (lv_at hl 0 rfl) ?_
      have c_0 : f_1 0 = .inr (6, [.int (nI (n 0)), .ref (ad 1), .ref (ad 4), .ref (ad 6), .ref (ad 8), .int (nI (n 1)), .ref (ad 9), .int (nI (n 2)), .ref (ad 90), .ref (ad 300), .ref (ad 301), .int (nI (n 3)), .int (g 13 0)]) := by rw [ef_1, va_up_ne _ _ (by decide), va_up_ne _ _ (by decide)]; exact c_0
      refine x_get (ci := 6) (C := RX5) (T := TX5) (n := 13) (ref := RX5) hx hb hts hin_6 hown hK hw 0 (by omega) c_0 rfl 1 (by decide) hf_25 (fun _ h => h) rfl dX5_matches_46 ?_
      refine lv_aload_n hx hb dX5_matches_49 rfl (lv_at hl 2 rfl) ?_
      have c_10_4_j : f_1 (10 + 4 * j) = .inr (1, [.ref (ad (11 + 4 * j)), .ref (ad (13 + 4 * j)), .int (g 7 j), .int (g 8 j), .int (g 9 j), .int (g 10 j), .int (g 11 j), .int (g 12 j)]) := by rw [ef_1, va_up_ne _ _ (by omega), va_up_ne _ _ (by omega)]; exact c_10_4_j
      refine x_getN (ci := 1) (C := RX0) (T := TX0) (n := 8) (ref := RX0) hx hb hts hin_1 hown hK hw (10 + 4 * j) (by omega) c_10_4_j rfl 1 (by decide) (hE.1 (112, "longWords", "[I") (by decide)) (fun _ h => h) rfl dX5_matches_50 ?_
      have c_1 : f_1 1 = .inr (2, [.ref (ad 2), .ref (ad 3)]) := by rw [ef_1, va_up_ne _ _ (by decide), va_up_ne _ _ (by decide)]; exact c_1
      have c_13_4_j : f_1 (13 + 4 * j) = ai (ca 0) 8 (g (200 + j)) := by rw [ef_1, va_up_ne _ _ (by omega), va_up_ne _ _ (by omega)]; exact (F_lw j (by omega))
      refine x_Vi (q := 1) (As := [.ref (ad (13 + 4 * j))]) (rest := []) ⟨hx, hb, hml, hown, hts⟩ (k_X1_equalTo_no l D ca N ad B tR tK f_1 dd 1 2 3 e1_4 (13 + 4 * j) (g (200 + j)) (by omega) c_1 (by omega) c_2 (by omega) c_13_4_j  (not_all8 (fun z9 => hf ⟨fun h => (by first | exact hc_21 | exact absurd hc_6 h), fun h k hk => (z9 k hk).trans (hq_5 k hk)⟩))) (cwV 1 hts gX5_matches_X1_equalTo rfl rfl rfl (by decide +kernel) ⟨Nat.le_of_ble_eq_true rfl, Nat.le_of_ble_eq_true rfl⟩) hK hE hB hw (by omega) c_1 rfl rfl rfl rfl hl.1 (Nat.le_of_ble_eq_true rfl) ⟨Nat.zero_le _, Nat.zero_le _⟩ dX5_matches_53 (fun r_7 f_6 H locs hp hw => ?_)
      obtain ⟨er, eu⟩ := hp
      rw [← er]
      rw [← eu] at hw
      have c_4 : f_1 4 = .inr (5, [.ref (ad 5)]) := by rw [ef_1, va_up_ne _ _ (by decide), va_up_ne _ _ (by decide)]; exact c_4
      have c_5 : f_1 5 = ai (ca 0) 256 tb := by rw [ef_1, va_up_ne _ _ (by decide), va_up_ne _ _ (by decide)]; exact c_5
      have c_6 : f_1 6 = .inr (3, [.ref (ad 7), .int (nI (n 4))]) := by rw [ef_1, va_up_ne _ _ (by decide), va_up_ne _ _ (by decide)]; exact c_6
      have c_7 : f_1 7 = ai (ca 0) 200 (g 0) := by rw [ef_1, va_up_ne _ _ (by decide), va_up_ne _ _ (by decide)]; exact c_7
      have c_8 : f_1 8 = ai (ca 0) 8 (g 1) := by rw [ef_1, va_up_ne _ _ (by decide), va_up_ne _ _ (by decide)]; exact c_8
      have c_9 : f_1 9 = aq (ca 3) 20 (fun i => some (ad (10 + 4 * i))) := by rw [ef_1, va_up_ne _ _ (by decide), va_up_ne _ _ (by decide)]; exact c_9
      have c_90 : f_1 90 = .inr (4, [.ref (ad 91), .ref (ad 94), .ref (ad 96), .ref (ad 97), .ref (ad 98), .ref (ad 99), .int (nI (n 5))]) := by rw [ef_1, va_up_ne _ _ (by decide), va_up_ne _ _ (by decide)]; exact c_90
      have c_91 : f_1 91 = .inr (2, [.ref (ad 92), .ref (ad 93)]) := by rw [ef_1, va_up_ne _ _ (by decide), va_up_ne _ _ (by decide)]; exact c_91
      have c_92 : f_1 92 = ai (ca 0) 8 (z 2) := by rw [ef_1, va_up_ne _ _ (by decide), va_up_ne _ _ (by decide)]; exact c_92
      have c_93 : f_1 93 = ai (ca 0) 64 (z 3) := by rw [ef_1, va_up_ne _ _ (by decide), va_up_ne _ _ (by decide)]; exact c_93
      have c_94 : f_1 94 = .inr (3, [.ref (ad 95), .int (nI zn)]) := by rw [ef_1, va_up_ne _ _ (by decide), va_up_ne _ _ (by decide)]; exact c_94
      have c_95 : f_1 95 = ai (ca 0) 200 (z 4) := by rw [ef_1, va_up_ne _ _ (by decide), va_up_ne _ _ (by decide)]; exact c_95
      have c_96 : f_1 96 = ai (ca 0) 200 (g 4) := by rw [ef_1, va_up_ne _ _ (by decide), va_up_ne _ _ (by decide)]; exact c_96
      have c_97 : f_1 97 = ai (ca 0) 200 (g 5) := by rw [ef_1, va_up_ne _ _ (by decide), va_up_ne _ _ (by decide)]; exact c_97
      have c_98 : f_1 98 = ai (ca 0) 200 (g 6) := by rw [ef_1, va_up_ne _ _ (by decide), va_up_ne _ _ (by decide)]; exact c_98
      have c_99 : f_1 99 = aq (ca 4) 200 (fun i => some (ad (100 + i))) := by rw [ef_1, va_up_ne _ _ (by decide), va_up_ne _ _ (by decide)]; exact c_99
      have c_300 : f_1 300 = ai (ca 0) 20 (g 2) := by rw [ef_1, va_up_ne _ _ (by decide), va_up_ne _ _ (by decide)]; exact c_300
      have c_301 : f_1 301 = ai (ca 2) 20 (g 3) := by rw [ef_1, va_up_ne _ _ (by decide), va_up_ne _ _ (by decide)]; exact c_301
      have qz_0 : (va_up (va_up z 0 e1_4) 1 w1_3) 0 = e1_4 := by rw [va_up_ne _ _ (by decide), va_up_self]
      have qz_1 : (va_up (va_up z 0 e1_4) 1 w1_3) 1 = w1_3 := by rw [va_up_self]
      have qz_2 : (va_up (va_up z 0 e1_4) 1 w1_3) 2 = z 2 := by rw [va_up_ne _ _ (by decide), va_up_ne _ _ (by decide)]
      have qz_3 : (va_up (va_up z 0 e1_4) 1 w1_3) 3 = z 3 := by rw [va_up_ne _ _ (by decide), va_up_ne _ _ (by decide)]
      have qz_4 : (va_up (va_up z 0 e1_4) 1 w1_3) 4 = z 4 := by rw [va_up_ne _ _ (by decide), va_up_ne _ _ (by decide)]
      have hRz : RepX ca ad n g (va_up (va_up z 0 e1_4) 1 w1_3) zn tb f_1 := ⟨c_0,
            c_1,
            (by rw [qz_0]; exact c_2),
            (by rw [qz_1]; exact c_3),
            c_4,
            c_5,
            c_6,
            c_7,
            c_8,
            c_9,
            c_90,
            c_91,
            (by rw [qz_2]; exact c_92),
            (by rw [qz_3]; exact c_93),
            c_94,
            (by rw [qz_4]; exact c_95),
            c_96,
            c_97,
            c_98,
            c_99,
            c_300,
            c_301,
            (fun i9 hi9 => by rw [ef_1, va_up_ne _ _ (by omega), va_up_ne _ _ (by omega)]; exact F_kf i9 hi9),
            (fun i9 hi9 => by rw [ef_1, va_up_ne _ _ (by omega), va_up_ne _ _ (by omega)]; exact F_oc i9 hi9),
            (fun i9 hi9 => by rw [ef_1, va_up_ne _ _ (by omega), va_up_ne _ _ (by omega)]; exact F_va i9 hi9),
            (fun i9 hi9 => by rw [ef_1, va_up_ne _ _ (by omega), va_up_ne _ _ (by omega)]; exact F_lw i9 hi9),
            (fun i9 hi9 => by rw [ef_1, va_up_ne _ _ (by omega), va_up_ne _ _ (by omega)]; exact F_M i9 hi9), hzn, hT⟩
      exact x_zret hx hb hr hlocks hw (by first | exact Or.inl rfl | exact Or.inr rfl) ⟨rfl, va_up (va_up z 0 e1_4) 1 w1_3, zn, hRz, (fun y hy => by rw [ef_1, va_up_ne _ _ (by omega), va_up_ne _ _ (by omega)])⟩ dX5_matches_56
    · exact absurd ⟨fun h => (by first | exact hc_21 | exact absurd hc_6 h), fun h => absurd hc_32 h⟩ hf
  · refine lv_aload_n hx hb dX5_matches_9 rfl (lv_at hl 0 rfl) ?_
    refine x_get (ci := 6) (C := RX5) (T := TX5) (n := 13) (ref := RX5) hx hb hts hin_6 hown hK hw 0 (by omega) c_0 rfl 2 (by decide) hf_32 (fun _ h => h) rfl dX5_matches_10 ?_
    refine lv_aload_n hx hb dX5_matches_13 rfl (lv_at hl 1 rfl) ?_
    have c_11_4_i : f (11 + 4 * i) = .inr (3, [.ref (ad (12 + 4 * i)), .int (nI (n (10 + i)))]) := (F_oc i (by omega))
    have c_12_4_i : f (12 + 4 * i) = ai (ca 0) 200 (g (100 + i)) := (F_va i (by omega))
    refine x_Vi (q := 4) (As := [.ref (ad (11 + 4 * i))]) (rest := []) ⟨hx, hb, hml, hown, hts⟩ (k_X4_compute l D ca N ad B tR tK f dd 4 5 tb (11 + 4 * i) (12 + 4 * i) (n (10 + i)) (g (100 + i)) (by omega) c_4 (by omega) c_5 (by omega) c_11_4_i (by omega) c_12_4_i  (by omega) hT) (cwV 1 hts gX5_matches_X4_compute rfl rfl rfl (by decide +kernel) ⟨Nat.le_of_ble_eq_true rfl, Nat.le_of_ble_eq_true rfl⟩) hK hE hB hw (by omega) c_4 rfl rfl rfl rfl hl.1 (Nat.le_of_ble_eq_true rfl) ⟨Nat.zero_le _, Nat.zero_le _⟩ dX5_matches_14 (fun r_9 f_8 H locs hp hw => ?_)
    obtain ⟨er, eu⟩ := hp
    rw [← er]
    rw [← eu] at hw
    refine lv_aload_n hx hb dX5_matches_17 rfl (lv_at hl 2 rfl) ?_
    refine x_getN (ci := 1) (C := RX0) (T := TX0) (n := 8) (ref := RX0) hx hb hts hin_1 hown hK hw (10 + 4 * j) (by omega) c_10_4_j rfl 2 (by decide) (hE.1 (115, "shortWord", "I") (by decide)) (fun _ h => h) rfl dX5_matches_18 ?_
    refine lv_icmp_eq (tgt := 26) hx hb dX5_matches_21 (by decide) (fun hc_21 => ?_) (fun hc_21 => ?_)
    · refine lv_aload_n hx hb dX5_matches_26 rfl (lv_at hl 2 rfl) ?_
      refine x_getN (ci := 1) (C := RX0) (T := TX0) (n := 8) (ref := RX0) hx hb hts hin_1 hown hK hw (10 + 4 * j) (by omega) c_10_4_j rfl 3 (by decide) (hE.1 (109, "algorithms", "I") (by decide)) (fun _ h => h) rfl dX5_matches_27 ?_
      refine lv_iconst (v := nI 1) hx hb dX5_matches_30 (by decide) ?_
      refine lv_iand hx hb dX5_matches_31 ?_
      refine lv_if_ne (tgt := 37) hx hb dX5_matches_32 (by decide) (fun hc_32 => ?_) (fun hc_32 => ?_)
      · refine lv_aload_n hx hb dX5_matches_37 rfl (lv_at hl 0 rfl) ?_
        refine x_get (ci := 6) (C := RX5) (T := TX5) (n := 13) (ref := RX5) hx hb hts hin_6 hown hK hw 0 (by omega) c_0 rfl 1 (by decide) hf_25 (fun _ h => h) rfl dX5_matches_38 ?_
        refine lv_aload_n hx hb dX5_matches_41 rfl (lv_at hl 1 rfl) ?_
        refine x_Vv (q := 1) (As := [.ref (ad (11 + 4 * i))]) (rest := []) ⟨hx, hb, hml, hown, hts⟩ (k_X1_compute l D ca N ad B tR tK f dd 1 2 3 (z 0) (z 1) (11 + 4 * i) (12 + 4 * i) (n (10 + i)) (g (100 + i)) (by omega) c_1 (by omega) c_2 (by omega) c_3 (by omega) c_11_4_i (by omega) c_12_4_i  (by omega) (by omega) (by omega) (by omega)) (cwV 1 hts gX5_matches_X1_compute rfl rfl rfl (by decide +kernel) ⟨Nat.le_of_ble_eq_true rfl, Nat.le_of_ble_eq_true rfl⟩) hK hE hB hw (by omega) c_1 rfl rfl rfl rfl hl.1 (Nat.le_of_ble_eq_true rfl) ⟨Nat.zero_le _, Nat.zero_le _⟩ dX5_matches_42 (fun f_10 H locs hp hw => ?_)
        obtain ⟨w1_12, e1_13, hq_14, eu⟩ := hp
        have ef_10 : f_10 = va_up (va_up f 3 (ai (ca 0) 64 w1_12)) 2 (ai (ca 0) 8 e1_13) := eu
        have c_3 : f_10 3 = ai (ca 0) 64 w1_12 := by rw [ef_10, va_up_ne _ _ (by decide), va_up_self]
        have c_2 : f_10 2 = ai (ca 0) 8 e1_13 := by rw [ef_10, va_up_self]
        refine lv_aload_n hx hb dX5_matches_45 rfl (lv_at hl 0 rfl) ?_
        have c_0 : f_10 0 = .inr (6, [.int (nI (n 0)), .ref (ad 1), .ref (ad 4), .ref (ad 6), .ref (ad 8), .int (nI (n 1)), .ref (ad 9), .int (nI (n 2)), .ref (ad 90), .ref (ad 300), .ref (ad 301), .int (nI (n 3)), .int (g 13 0)]) := by rw [ef_10, va_up_ne _ _ (by decide), va_up_ne _ _ (by decide)]; exact c_0
        refine x_get (ci := 6) (C := RX5) (T := TX5) (n := 13) (ref := RX5) hx hb hts hin_6 hown hK hw 0 (by omega) c_0 rfl 1 (by decide) hf_25 (fun _ h => h) rfl dX5_matches_46 ?_
        refine lv_aload_n hx hb dX5_matches_49 rfl (lv_at hl 2 rfl) ?_
        have c_10_4_j : f_10 (10 + 4 * j) = .inr (1, [.ref (ad (11 + 4 * j)), .ref (ad (13 + 4 * j)), .int (g 7 j), .int (g 8 j), .int (g 9 j), .int (g 10 j), .int (g 11 j), .int (g 12 j)]) := by rw [ef_10, va_up_ne _ _ (by omega), va_up_ne _ _ (by omega)]; exact c_10_4_j
        refine x_getN (ci := 1) (C := RX0) (T := TX0) (n := 8) (ref := RX0) hx hb hts hin_1 hown hK hw (10 + 4 * j) (by omega) c_10_4_j rfl 1 (by decide) (hE.1 (112, "longWords", "[I") (by decide)) (fun _ h => h) rfl dX5_matches_50 ?_
        have c_1 : f_10 1 = .inr (2, [.ref (ad 2), .ref (ad 3)]) := by rw [ef_10, va_up_ne _ _ (by decide), va_up_ne _ _ (by decide)]; exact c_1
        have c_13_4_j : f_10 (13 + 4 * j) = ai (ca 0) 8 (g (200 + j)) := by rw [ef_10, va_up_ne _ _ (by omega), va_up_ne _ _ (by omega)]; exact (F_lw j (by omega))
        refine x_Vi (q := 1) (As := [.ref (ad (13 + 4 * j))]) (rest := []) ⟨hx, hb, hml, hown, hts⟩ (k_X1_equalTo_no l D ca N ad B tR tK f_10 dd 1 2 3 e1_13 (13 + 4 * j) (g (200 + j)) (by omega) c_1 (by omega) c_2 (by omega) c_13_4_j  (not_all8 (fun z9 => hf ⟨fun h => (by first | exact hc_21 | exact absurd hc_6 h), fun h k hk => (z9 k hk).trans (hq_14 k hk)⟩))) (cwV 1 hts gX5_matches_X1_equalTo rfl rfl rfl (by decide +kernel) ⟨Nat.le_of_ble_eq_true rfl, Nat.le_of_ble_eq_true rfl⟩) hK hE hB hw (by omega) c_1 rfl rfl rfl rfl hl.1 (Nat.le_of_ble_eq_true rfl) ⟨Nat.zero_le _, Nat.zero_le _⟩ dX5_matches_53 (fun r_16 f_15 H locs hp hw => ?_)
        obtain ⟨er, eu⟩ := hp
        rw [← er]
        rw [← eu] at hw
        have c_4 : f_10 4 = .inr (5, [.ref (ad 5)]) := by rw [ef_10, va_up_ne _ _ (by decide), va_up_ne _ _ (by decide)]; exact c_4
        have c_5 : f_10 5 = ai (ca 0) 256 tb := by rw [ef_10, va_up_ne _ _ (by decide), va_up_ne _ _ (by decide)]; exact c_5
        have c_6 : f_10 6 = .inr (3, [.ref (ad 7), .int (nI (n 4))]) := by rw [ef_10, va_up_ne _ _ (by decide), va_up_ne _ _ (by decide)]; exact c_6
        have c_7 : f_10 7 = ai (ca 0) 200 (g 0) := by rw [ef_10, va_up_ne _ _ (by decide), va_up_ne _ _ (by decide)]; exact c_7
        have c_8 : f_10 8 = ai (ca 0) 8 (g 1) := by rw [ef_10, va_up_ne _ _ (by decide), va_up_ne _ _ (by decide)]; exact c_8
        have c_9 : f_10 9 = aq (ca 3) 20 (fun i => some (ad (10 + 4 * i))) := by rw [ef_10, va_up_ne _ _ (by decide), va_up_ne _ _ (by decide)]; exact c_9
        have c_90 : f_10 90 = .inr (4, [.ref (ad 91), .ref (ad 94), .ref (ad 96), .ref (ad 97), .ref (ad 98), .ref (ad 99), .int (nI (n 5))]) := by rw [ef_10, va_up_ne _ _ (by decide), va_up_ne _ _ (by decide)]; exact c_90
        have c_91 : f_10 91 = .inr (2, [.ref (ad 92), .ref (ad 93)]) := by rw [ef_10, va_up_ne _ _ (by decide), va_up_ne _ _ (by decide)]; exact c_91
        have c_92 : f_10 92 = ai (ca 0) 8 (z 2) := by rw [ef_10, va_up_ne _ _ (by decide), va_up_ne _ _ (by decide)]; exact c_92
        have c_93 : f_10 93 = ai (ca 0) 64 (z 3) := by rw [ef_10, va_up_ne _ _ (by decide), va_up_ne _ _ (by decide)]; exact c_93
        have c_94 : f_10 94 = .inr (3, [.ref (ad 95), .int (nI zn)]) := by rw [ef_10, va_up_ne _ _ (by decide), va_up_ne _ _ (by decide)]; exact c_94
        have c_95 : f_10 95 = ai (ca 0) 200 (z 4) := by rw [ef_10, va_up_ne _ _ (by decide), va_up_ne _ _ (by decide)]; exact c_95
        have c_96 : f_10 96 = ai (ca 0) 200 (g 4) := by rw [ef_10, va_up_ne _ _ (by decide), va_up_ne _ _ (by decide)]; exact c_96
        have c_97 : f_10 97 = ai (ca 0) 200 (g 5) := by rw [ef_10, va_up_ne _ _ (by decide), va_up_ne _ _ (by decide)]; exact c_97
        have c_98 : f_10 98 = ai (ca 0) 200 (g 6) := by rw [ef_10, va_up_ne _ _ (by decide), va_up_ne _ _ (by decide)]; exact c_98
        have c_99 : f_10 99 = aq (ca 4) 200 (fun i => some (ad (100 + i))) := by rw [ef_10, va_up_ne _ _ (by decide), va_up_ne _ _ (by decide)]; exact c_99
        have c_300 : f_10 300 = ai (ca 0) 20 (g 2) := by rw [ef_10, va_up_ne _ _ (by decide), va_up_ne _ _ (by decide)]; exact c_300
        have c_301 : f_10 301 = ai (ca 2) 20 (g 3) := by rw [ef_10, va_up_ne _ _ (by decide), va_up_ne _ _ (by decide)]; exact c_301
        have qz_0 : (va_up (va_up z 0 e1_13) 1 w1_12) 0 = e1_13 := by rw [va_up_ne _ _ (by decide), va_up_self]
        have qz_1 : (va_up (va_up z 0 e1_13) 1 w1_12) 1 = w1_12 := by rw [va_up_self]
        have qz_2 : (va_up (va_up z 0 e1_13) 1 w1_12) 2 = z 2 := by rw [va_up_ne _ _ (by decide), va_up_ne _ _ (by decide)]
        have qz_3 : (va_up (va_up z 0 e1_13) 1 w1_12) 3 = z 3 := by rw [va_up_ne _ _ (by decide), va_up_ne _ _ (by decide)]
        have qz_4 : (va_up (va_up z 0 e1_13) 1 w1_12) 4 = z 4 := by rw [va_up_ne _ _ (by decide), va_up_ne _ _ (by decide)]
        have hRz : RepX ca ad n g (va_up (va_up z 0 e1_13) 1 w1_12) zn tb f_10 := ⟨c_0,
              c_1,
              (by rw [qz_0]; exact c_2),
              (by rw [qz_1]; exact c_3),
              c_4,
              c_5,
              c_6,
              c_7,
              c_8,
              c_9,
              c_90,
              c_91,
              (by rw [qz_2]; exact c_92),
              (by rw [qz_3]; exact c_93),
              c_94,
              (by rw [qz_4]; exact c_95),
              c_96,
              c_97,
              c_98,
              c_99,
              c_300,
              c_301,
              (fun i9 hi9 => by rw [ef_10, va_up_ne _ _ (by omega), va_up_ne _ _ (by omega)]; exact F_kf i9 hi9),
              (fun i9 hi9 => by rw [ef_10, va_up_ne _ _ (by omega), va_up_ne _ _ (by omega)]; exact F_oc i9 hi9),
              (fun i9 hi9 => by rw [ef_10, va_up_ne _ _ (by omega), va_up_ne _ _ (by omega)]; exact F_va i9 hi9),
              (fun i9 hi9 => by rw [ef_10, va_up_ne _ _ (by omega), va_up_ne _ _ (by omega)]; exact F_lw i9 hi9),
              (fun i9 hi9 => by rw [ef_10, va_up_ne _ _ (by omega), va_up_ne _ _ (by omega)]; exact F_M i9 hi9), hzn, hT⟩
        exact x_zret hx hb hr hlocks hw (by first | exact Or.inl rfl | exact Or.inr rfl) ⟨rfl, va_up (va_up z 0 e1_13) 1 w1_12, zn, hRz, (fun y hy => by rw [ef_10, va_up_ne _ _ (by omega), va_up_ne _ _ (by omega)])⟩ dX5_matches_56
      · exact absurd ⟨fun h => (by first | exact hc_21 | exact absurd hc_6 h), fun h => absurd hc_32 h⟩ hf
    · refine lv_iconst (v := nI 0) hx hb dX5_matches_24 (by decide) ?_
      have hRz : RepX ca ad n g z zn tb f := ⟨c_0,
            c_1,
            c_2,
            c_3,
            c_4,
            c_5,
            c_6,
            c_7,
            c_8,
            c_9,
            c_90,
            c_91,
            c_92,
            c_93,
            c_94,
            c_95,
            c_96,
            c_97,
            c_98,
            c_99,
            c_300,
            c_301,
            (fun i9 hi9 => by exact F_kf i9 hi9),
            (fun i9 hi9 => by exact F_oc i9 hi9),
            (fun i9 hi9 => by exact F_va i9 hi9),
            (fun i9 hi9 => by exact F_lw i9 hi9),
            (fun i9 hi9 => by exact F_M i9 hi9), hzn, hT⟩
      exact x_zret hx hb hr hlocks hw (by first | exact Or.inl rfl | exact Or.inr rfl) ⟨rfl, z, zn, hRz, (fun _ _ => rfl)⟩ dX5_matches_25

abbrev rmX5_check : Room := { frames := 5, cells := 0, slots := 0, locals := 122 }

set_option maxHeartbeats 4000000 in
set_option maxRecDepth 100000 in
theorem k_X5_check_fit (l : Launch) (D : va_G) (ca : Nat → ClassId) (N : Nat) (ad : Nat → Nat) (B tR tK : Nat) (f : Nat → va_E) (dd : xD N ad B) (hN : 302 ≤ N) (n : Nat → Nat) (g : Nat → Nat → Int32) (z : Nat → Nat → Int32) (zn : Nat) (tb : Nat → Int32) (hR : RepX ca ad n g z zn tb f) (i : Nat) (y : Int32) (hi : i < 20) (hsz : ∀ i, i < 20 → n (10 + i) ≤ 200) (h5 : n 5 < 200) (hf : fitsX n g i i) : xMi l yX5_check wsX5_check rmX5_check [.ref (ad 0), .int (nI i), .int y] D ca N ad B tR tK f (fun r u => nI 1 = r ∧ ∃ (z1 : Nat → Nat → Int32) (zn1 : Nat), RepX ca ad (va_up n 5 ((n 5) + 1)) (va_up (va_up (va_up (va_up (va_up g 4 (upd (g 4) (n 5) (nI 1))) 5 (upd (g 5) (n 5) (nI i))) 6 (upd (g 6) (n 5) y)) 9 (upd (g 9) i y)) (1000 + (n 5)) (rowD (prevD (fun i8 => g (1000 + i8)) (n 5)) (nI 1) (nI i) y)) z1 zn1 tb u ∧ ∀ y, 302 ≤ y → u y = f y) := by
  refine x_open (cc := cX5_check) (maxL := 5) (ret := (some .boolean)) (by decide) rfl (Nat.le_of_ble_eq_true rfl) ?_
  intro p e s m below meth c ls hx hb hml hown hts hr hlocks hnm hB hK hE hw hl
  have hown : s.vm.findClass RX5 = some m.cls := hown
  have hl : lv_has ls 5 [(0, .ref (ad 0)), (1, .int (nI i)), (2, .int y)] := hl
  obtain ⟨c_0, c_1, c_2, c_3, c_4, c_5, c_6, c_7, c_8, c_9, c_90, c_91, c_92, c_93, c_94, c_95, c_96, c_97, c_98, c_99, c_300, c_301, F_kf, F_oc, F_va, F_lw, F_M, hzn, hT⟩ := hR
  have hin_6 : ∀ w ∈ u_ws RX5 TX5 13, w ∈ wsX5_check := by decide +kernel
  have hf_49 := hts (.fieldLink RX5 49 "FixityRows" "files" "[LFixityRows$KeptFile;") (by decide +kernel)
  have hin_1 : ∀ w ∈ u_ws RX0 TX0 8, w ∈ wsX5_check := by decide +kernel
  have hf_57 := hts (.fieldLink RX5 57 "FixityRows" "rows" "LFixityRows$RowChain;") (by decide +kernel)
  have b_0 := c_0
  have b_1 := c_1
  have b_2 := c_2
  have b_3 := c_3
  have b_4 := c_4
  have b_5 := c_5
  have b_6 := c_6
  have b_7 := c_7
  have b_8 := c_8
  have b_9 := c_9
  have b_90 := c_90
  have b_91 := c_91
  have b_92 := c_92
  have b_93 := c_93
  have b_94 := c_94
  have b_95 := c_95
  have b_96 := c_96
  have b_97 := c_97
  have b_98 := c_98
  have b_99 := c_99
  have b_300 := c_300
  have b_301 := c_301
  refine lv_aload_n hx hb dX5_check_0 rfl (lv_at hl 0 rfl) ?_
  refine x_get (ci := 6) (C := RX5) (T := TX5) (n := 13) (ref := RX5) hx hb hts hin_6 hown hK hw 0 (by omega) c_0 rfl 6 (by decide) hf_49 (fun _ h => h) rfl dX5_check_1 ?_
  refine lv_iload_n hx hb dX5_check_4 rfl (lv_at hl 1 rfl) ?_
  refine x_aald (j := i) (a := ad (10 + 4 * i)) hx hb hK hw 9 3 (by omega) c_9 rfl rfl (by omega) (by decide) rfl dX5_check_5 ?_
  refine lv_astore_n (lv' := [(3, .ref (ad (10 + 4 * i))), (0, .ref (ad 0)), (1, .int (nI i)), (2, .int y)]) hx hb dX5_check_6 rfl hl (by decide) rfl (fun ls hl => ?_)
  refine lv_aload_n hx hb dX5_check_7 rfl (lv_at hl 1 rfl) ?_
  refine lv_aload_n hx hb dX5_check_8 rfl (lv_at hl 0 rfl) ?_
  have c_10_4_i : f (10 + 4 * i) = .inr (1, [.ref (ad (11 + 4 * i)), .ref (ad (13 + 4 * i)), .int (g 7 i), .int (g 8 i), .int (g 9 i), .int (g 10 i), .int (g 11 i), .int (g 12 i)]) := (F_kf i (by omega))
  refine x_getN (ci := 1) (C := RX0) (T := TX0) (n := 8) (ref := RX0) hx hb hts hin_1 hown hK hw (10 + 4 * i) (by omega) c_10_4_i rfl 0 (by decide) (hE.1 (103, "octets", "LFixityRows$Octets;") (by decide)) (fun _ h => h) rfl dX5_check_9 ?_
  refine lv_aload_n hx hb dX5_check_12 rfl (lv_at hl 0 rfl) ?_
  have hRk : RepX ca ad n g z zn tb f := ⟨c_0,
        c_1,
        c_2,
        c_3,
        c_4,
        c_5,
        c_6,
        c_7,
        c_8,
        c_9,
        c_90,
        c_91,
        c_92,
        c_93,
        c_94,
        c_95,
        c_96,
        c_97,
        c_98,
        c_99,
        c_300,
        c_301,
        (fun i9 hi9 => by exact F_kf i9 hi9),
        (fun i9 hi9 => by exact F_oc i9 hi9),
        (fun i9 hi9 => by exact F_va i9 hi9),
        (fun i9 hi9 => by exact F_lw i9 hi9),
        (fun i9 hi9 => by exact F_M i9 hi9), hzn, hT⟩
  have hfr : ∀ y, 302 ≤ y → f y = f y := (fun _ _ => rfl)
  refine x_Vi (q := 0) (As := [.ref (ad (11 + 4 * i)), .ref (ad (10 + 4 * i))]) (rest := []) ⟨hx, hb, hml, hown, hts⟩ (k_X5_matches_yes l D ca N ad B tR tK f dd hN n g z zn tb hRk i i (by omega) (by omega) hsz hf) (cwV 2 hts gX5_check_X5_matches rfl rfl rfl (by decide +kernel) ⟨Nat.le_of_ble_eq_true rfl, Nat.le_of_ble_eq_true rfl⟩) hK hE hB hw (by omega) c_0 rfl rfl rfl rfl hl.1 (Nat.le_of_ble_eq_true rfl) ⟨Nat.zero_le _, Nat.zero_le _⟩ dX5_check_13 (fun r_2 f_1 H locs hp hw => ?_)
  obtain ⟨er, hp⟩ := hp
  rw [← er]
  obtain ⟨z_3, zn_4, hR2, hfr2⟩ := hp
  have hfr : ∀ y, 302 ≤ y → f_1 y = f y := fun y hy => (hfr2 y hy).trans (hfr y hy)
  obtain ⟨c_0, c_1, c_2, c_3, c_4, c_5, c_6, c_7, c_8, c_9, c_90, c_91, c_92, c_93, c_94, c_95, c_96, c_97, c_98, c_99, c_300, c_301, F_kf, F_oc, F_va, F_lw, F_M, hzn, hT⟩ := hR2
  refine lv_istore (lv' := [(4, .int (nI 1)), (3, .ref (ad (10 + 4 * i))), (0, .ref (ad 0)), (1, .int (nI i)), (2, .int y)]) hx hb dX5_check_16 hl (by decide) rfl (fun ls hl => ?_)
  refine lv_iload hx hb dX5_check_18 (lv_at hl 0 rfl) ?_
  refine lv_if_eq (tgt := 28) hx hb dX5_check_20 (by decide) (fun h => absurd h (by decide)) (fun _ => ?_)
  refine lv_aload_n hx hb dX5_check_23 rfl (lv_at hl 1 rfl) ?_
  refine lv_iload_n hx hb dX5_check_24 rfl (lv_at hl 4 rfl) ?_
  have c_10_4_i : f_1 (10 + 4 * i) = .inr (1, [.ref (ad (11 + 4 * i)), .ref (ad (13 + 4 * i)), .int (g 7 i), .int (g 8 i), .int (g 9 i), .int (g 10 i), .int (g 11 i), .int (g 12 i)]) := (F_kf i (by omega))
  refine x_putN (ci := 1) (C := RX0) (T := TX0) (n := 8) (ref := RX0) (fs' := [.ref (ad (11 + 4 * i)), .ref (ad (13 + 4 * i)), .int (g 7 i), .int (g 8 i), .int y, .int (g 10 i), .int (g 11 i), .int (g 12 i)]) hx hb hts hin_1 tyX0 tyX0_ok nmX0 hown hK dd hw (10 + 4 * i) (by omega) c_10_4_i rfl 4 (by decide) (hE.1 (173, "fittedDay", "I") (by decide)) (fun _ h => h) rfl rfl rfl (Nat.le_of_ble_eq_true rfl) rfl dX5_check_25 (fun H locs hw => ?_)
  obtain ⟨f_7, ef_7⟩ : ∃ z, z = va_up f_1 (10 + 4 * i) (.inr (1, [.ref (ad (11 + 4 * i)), .ref (ad (13 + 4 * i)), .int (g 7 i), .int (g 8 i), .int y, .int (g 10 i), .int (g 11 i), .int (g 12 i)])) := ⟨_, rfl⟩
  have hw : xw D vwCl N ad B s.heap f_7 H locs := by rw [ef_7]; exact hw
  have c_10_4_i : f_7 (10 + 4 * i) = .inr (1, [.ref (ad (11 + 4 * i)), .ref (ad (13 + 4 * i)), .int (g 7 i), .int (g 8 i), .int y, .int (g 10 i), .int (g 11 i), .int (g 12 i)]) := va_up_of ef_7
  refine lv_aload_n hx hb dX5_check_28 rfl (lv_at hl 2 rfl) ?_
  have c_0 : f_7 0 = .inr (6, [.int (nI (n 0)), .ref (ad 1), .ref (ad 4), .ref (ad 6), .ref (ad 8), .int (nI (n 1)), .ref (ad 9), .int (nI (n 2)), .ref (ad 90), .ref (ad 300), .ref (ad 301), .int (nI (n 3)), .int (g 13 0)]) := by rw [ef_7, va_up_ne _ _ (by omega)]; exact c_0
  refine x_get (ci := 6) (C := RX5) (T := TX5) (n := 13) (ref := RX5) hx hb hts hin_6 hown hK hw 0 (by omega) c_0 rfl 8 (by decide) hf_57 (fun _ h => h) rfl dX5_check_29 ?_
  refine lv_iload hx hb dX5_check_32 (lv_at hl 0 rfl) ?_
  refine lv_if_eq (tgt := 41) hx hb dX5_check_34 (by decide) (fun h => absurd h (by decide)) (fun _ => ?_)
  refine lv_iconst (v := nI 1) hx hb dX5_check_37 (by decide) ?_
  refine lv_goto (tgt := 42) hx hb dX5_check_38 (by decide) ?_
  refine lv_iload_n hx hb dX5_check_42 rfl (lv_at hl 3 rfl) ?_
  refine lv_iload_n hx hb dX5_check_43 rfl (lv_at hl 4 rfl) ?_
  have c_90 : f_7 90 = .inr (4, [.ref (ad 91), .ref (ad 94), .ref (ad 96), .ref (ad 97), .ref (ad 98), .ref (ad 99), .int (nI (n 5))]) := by rw [ef_7, va_up_ne _ _ (by omega)]; exact c_90
  have c_91 : f_7 91 = .inr (2, [.ref (ad 92), .ref (ad 93)]) := by rw [ef_7, va_up_ne _ _ (by omega)]; exact c_91
  have c_92 : f_7 92 = ai (ca 0) 8 (z_3 2) := by rw [ef_7, va_up_ne _ _ (by omega)]; exact c_92
  have c_93 : f_7 93 = ai (ca 0) 64 (z_3 3) := by rw [ef_7, va_up_ne _ _ (by omega)]; exact c_93
  have c_94 : f_7 94 = .inr (3, [.ref (ad 95), .int (nI zn_4)]) := by rw [ef_7, va_up_ne _ _ (by omega)]; exact c_94
  have c_95 : f_7 95 = ai (ca 0) 200 (z_3 4) := by rw [ef_7, va_up_ne _ _ (by omega)]; exact c_95
  have c_96 : f_7 96 = ai (ca 0) 200 (g 4) := by rw [ef_7, va_up_ne _ _ (by omega)]; exact c_96
  have c_97 : f_7 97 = ai (ca 0) 200 (g 5) := by rw [ef_7, va_up_ne _ _ (by omega)]; exact c_97
  have c_98 : f_7 98 = ai (ca 0) 200 (g 6) := by rw [ef_7, va_up_ne _ _ (by omega)]; exact c_98
  have c_99 : f_7 99 = aq (ca 4) 200 (fun i => some (ad (100 + i))) := by rw [ef_7, va_up_ne _ _ (by omega)]; exact c_99
  refine x_Vv (q := 90) (As := [.int (nI 1), .int (nI i), .int y]) (rest := []) ⟨hx, hb, hml, hown, hts⟩ (k_X3_append_in l D ca N ad B tR tK f_7 dd (n 5) (z_3 2) (z_3 3) zn_4 (z_3 4) (g 4) (g 5) (g 6) (fun i8 => g (1000 + i8)) (nI 1) (nI i) y c_90 c_91 c_92 c_93 c_94 c_95 c_96 c_97 c_98 c_99 (fun i hi => by rw [ef_7, va_up_ne _ _ (by omega)]; exact F_M i hi) (by omega) (by omega) (by omega)) (cwV 3 hts gX5_check_X3_append rfl rfl rfl (by decide +kernel) ⟨Nat.le_of_ble_eq_true rfl, Nat.le_of_ble_eq_true rfl⟩) hK hE hB hw (by omega) c_90 rfl rfl rfl rfl hl.1 (Nat.le_of_ble_eq_true rfl) ⟨Nat.zero_le _, Nat.zero_le _⟩ dX5_check_44 (fun f_8 H locs hp hw => ?_)
  obtain ⟨sv1_10, w1_11, e1_12, eu⟩ := hp
  have ef_8 : f_8 = va_up (va_up (va_up (va_up (va_up (va_up (va_up (va_up (va_up f_7 96 (ai (ca 0) 200 (upd (g 4) (n 5) (nI 1)))) 97 (ai (ca 0) 200 (upd (g 5) (n 5) (nI i)))) 98 (ai (ca 0) 200 (upd (g 6) (n 5) y))) 90 (.inr (4, [.ref (ad 91), .ref (ad 94), .ref (ad 96), .ref (ad 97), .ref (ad 98), .ref (ad 99), .int (nI ((n 5) + 1))]))) 95 (ai (ca 0) 200 sv1_10)) 94 (.inr (3, [.ref (ad 95), .int (nI 44)]))) 93 (ai (ca 0) 64 w1_11)) 92 (ai (ca 0) 8 e1_12)) (100 + (n 5)) (ai (ca 0) 8 (rowD (prevD (fun i8 => g (1000 + i8)) (n 5)) (nI 1) (nI i) y)) := eu
  have c_96 : f_8 96 = ai (ca 0) 200 (upd (g 4) (n 5) (nI 1)) := by rw [ef_8, va_up_ne _ _ (by omega), va_up_ne _ _ (by decide), va_up_ne _ _ (by decide), va_up_ne _ _ (by decide), va_up_ne _ _ (by decide), va_up_ne _ _ (by decide), va_up_ne _ _ (by decide), va_up_ne _ _ (by decide), va_up_self]
  have c_97 : f_8 97 = ai (ca 0) 200 (upd (g 5) (n 5) (nI i)) := by rw [ef_8, va_up_ne _ _ (by omega), va_up_ne _ _ (by decide), va_up_ne _ _ (by decide), va_up_ne _ _ (by decide), va_up_ne _ _ (by decide), va_up_ne _ _ (by decide), va_up_ne _ _ (by decide), va_up_self]
  have c_98 : f_8 98 = ai (ca 0) 200 (upd (g 6) (n 5) y) := by rw [ef_8, va_up_ne _ _ (by omega), va_up_ne _ _ (by decide), va_up_ne _ _ (by decide), va_up_ne _ _ (by decide), va_up_ne _ _ (by decide), va_up_ne _ _ (by decide), va_up_self]
  have c_90 : f_8 90 = .inr (4, [.ref (ad 91), .ref (ad 94), .ref (ad 96), .ref (ad 97), .ref (ad 98), .ref (ad 99), .int (nI ((n 5) + 1))]) := by rw [ef_8, va_up_ne _ _ (by omega), va_up_ne _ _ (by decide), va_up_ne _ _ (by decide), va_up_ne _ _ (by decide), va_up_ne _ _ (by decide), va_up_self]
  have c_95 : f_8 95 = ai (ca 0) 200 sv1_10 := by rw [ef_8, va_up_ne _ _ (by omega), va_up_ne _ _ (by decide), va_up_ne _ _ (by decide), va_up_ne _ _ (by decide), va_up_self]
  have c_94 : f_8 94 = .inr (3, [.ref (ad 95), .int (nI 44)]) := by rw [ef_8, va_up_ne _ _ (by omega), va_up_ne _ _ (by decide), va_up_ne _ _ (by decide), va_up_self]
  have c_93 : f_8 93 = ai (ca 0) 64 w1_11 := by rw [ef_8, va_up_ne _ _ (by omega), va_up_ne _ _ (by decide), va_up_self]
  have c_92 : f_8 92 = ai (ca 0) 8 e1_12 := by rw [ef_8, va_up_ne _ _ (by omega), va_up_self]
  have c_100_n_5 : f_8 (100 + (n 5)) = ai (ca 0) 8 (rowD (prevD (fun i8 => g (1000 + i8)) (n 5)) (nI 1) (nI i) y) := by rw [ef_8, va_up_self]
  refine lv_iload hx hb dX5_check_47 (lv_at hl 0 rfl) ?_
  have c_0 : f_8 0 = .inr (6, [.int (nI (n 0)), .ref (ad 1), .ref (ad 4), .ref (ad 6), .ref (ad 8), .int (nI (n 1)), .ref (ad 9), .int (nI (n 2)), .ref (ad 90), .ref (ad 300), .ref (ad 301), .int (nI (n 3)), .int (g 13 0)]) := by rw [ef_8, va_up_ne _ _ (by omega), va_up_ne _ _ (by decide), va_up_ne _ _ (by decide), va_up_ne _ _ (by decide), va_up_ne _ _ (by decide), va_up_ne _ _ (by decide), va_up_ne _ _ (by decide), va_up_ne _ _ (by decide), va_up_ne _ _ (by decide)]; exact c_0
  have c_1 : f_8 1 = .inr (2, [.ref (ad 2), .ref (ad 3)]) := by rw [ef_8, va_up_ne _ _ (by omega), va_up_ne _ _ (by decide), va_up_ne _ _ (by decide), va_up_ne _ _ (by decide), va_up_ne _ _ (by decide), va_up_ne _ _ (by decide), va_up_ne _ _ (by decide), va_up_ne _ _ (by decide), va_up_ne _ _ (by decide), ef_7, va_up_ne _ _ (by omega)]; exact c_1
  have c_2 : f_8 2 = ai (ca 0) 8 (z_3 0) := by rw [ef_8, va_up_ne _ _ (by omega), va_up_ne _ _ (by decide), va_up_ne _ _ (by decide), va_up_ne _ _ (by decide), va_up_ne _ _ (by decide), va_up_ne _ _ (by decide), va_up_ne _ _ (by decide), va_up_ne _ _ (by decide), va_up_ne _ _ (by decide), ef_7, va_up_ne _ _ (by omega)]; exact c_2
  have c_3 : f_8 3 = ai (ca 0) 64 (z_3 1) := by rw [ef_8, va_up_ne _ _ (by omega), va_up_ne _ _ (by decide), va_up_ne _ _ (by decide), va_up_ne _ _ (by decide), va_up_ne _ _ (by decide), va_up_ne _ _ (by decide), va_up_ne _ _ (by decide), va_up_ne _ _ (by decide), va_up_ne _ _ (by decide), ef_7, va_up_ne _ _ (by omega)]; exact c_3
  have c_4 : f_8 4 = .inr (5, [.ref (ad 5)]) := by rw [ef_8, va_up_ne _ _ (by omega), va_up_ne _ _ (by decide), va_up_ne _ _ (by decide), va_up_ne _ _ (by decide), va_up_ne _ _ (by decide), va_up_ne _ _ (by decide), va_up_ne _ _ (by decide), va_up_ne _ _ (by decide), va_up_ne _ _ (by decide), ef_7, va_up_ne _ _ (by omega)]; exact c_4
  have c_5 : f_8 5 = ai (ca 0) 256 tb := by rw [ef_8, va_up_ne _ _ (by omega), va_up_ne _ _ (by decide), va_up_ne _ _ (by decide), va_up_ne _ _ (by decide), va_up_ne _ _ (by decide), va_up_ne _ _ (by decide), va_up_ne _ _ (by decide), va_up_ne _ _ (by decide), va_up_ne _ _ (by decide), ef_7, va_up_ne _ _ (by omega)]; exact c_5
  have c_6 : f_8 6 = .inr (3, [.ref (ad 7), .int (nI (n 4))]) := by rw [ef_8, va_up_ne _ _ (by omega), va_up_ne _ _ (by decide), va_up_ne _ _ (by decide), va_up_ne _ _ (by decide), va_up_ne _ _ (by decide), va_up_ne _ _ (by decide), va_up_ne _ _ (by decide), va_up_ne _ _ (by decide), va_up_ne _ _ (by decide), ef_7, va_up_ne _ _ (by omega)]; exact c_6
  have c_7 : f_8 7 = ai (ca 0) 200 (g 0) := by rw [ef_8, va_up_ne _ _ (by omega), va_up_ne _ _ (by decide), va_up_ne _ _ (by decide), va_up_ne _ _ (by decide), va_up_ne _ _ (by decide), va_up_ne _ _ (by decide), va_up_ne _ _ (by decide), va_up_ne _ _ (by decide), va_up_ne _ _ (by decide), ef_7, va_up_ne _ _ (by omega)]; exact c_7
  have c_8 : f_8 8 = ai (ca 0) 8 (g 1) := by rw [ef_8, va_up_ne _ _ (by omega), va_up_ne _ _ (by decide), va_up_ne _ _ (by decide), va_up_ne _ _ (by decide), va_up_ne _ _ (by decide), va_up_ne _ _ (by decide), va_up_ne _ _ (by decide), va_up_ne _ _ (by decide), va_up_ne _ _ (by decide), ef_7, va_up_ne _ _ (by omega)]; exact c_8
  have c_9 : f_8 9 = aq (ca 3) 20 (fun i => some (ad (10 + 4 * i))) := by rw [ef_8, va_up_ne _ _ (by omega), va_up_ne _ _ (by decide), va_up_ne _ _ (by decide), va_up_ne _ _ (by decide), va_up_ne _ _ (by decide), va_up_ne _ _ (by decide), va_up_ne _ _ (by decide), va_up_ne _ _ (by decide), va_up_ne _ _ (by decide), ef_7, va_up_ne _ _ (by omega)]; exact c_9
  have c_91 : f_8 91 = .inr (2, [.ref (ad 92), .ref (ad 93)]) := by rw [ef_8, va_up_ne _ _ (by omega), va_up_ne _ _ (by decide), va_up_ne _ _ (by decide), va_up_ne _ _ (by decide), va_up_ne _ _ (by decide), va_up_ne _ _ (by decide), va_up_ne _ _ (by decide), va_up_ne _ _ (by decide), va_up_ne _ _ (by decide)]; exact c_91
  have c_99 : f_8 99 = aq (ca 4) 200 (fun i => some (ad (100 + i))) := by rw [ef_8, va_up_ne _ _ (by omega), va_up_ne _ _ (by decide), va_up_ne _ _ (by decide), va_up_ne _ _ (by decide), va_up_ne _ _ (by decide), va_up_ne _ _ (by decide), va_up_ne _ _ (by decide), va_up_ne _ _ (by decide), va_up_ne _ _ (by decide)]; exact c_99
  have c_300 : f_8 300 = ai (ca 0) 20 (g 2) := by rw [ef_8, va_up_ne _ _ (by omega), va_up_ne _ _ (by decide), va_up_ne _ _ (by decide), va_up_ne _ _ (by decide), va_up_ne _ _ (by decide), va_up_ne _ _ (by decide), va_up_ne _ _ (by decide), va_up_ne _ _ (by decide), va_up_ne _ _ (by decide), ef_7, va_up_ne _ _ (by omega)]; exact c_300
  have c_301 : f_8 301 = ai (ca 2) 20 (g 3) := by rw [ef_8, va_up_ne _ _ (by omega), va_up_ne _ _ (by decide), va_up_ne _ _ (by decide), va_up_ne _ _ (by decide), va_up_ne _ _ (by decide), va_up_ne _ _ (by decide), va_up_ne _ _ (by decide), va_up_ne _ _ (by decide), va_up_ne _ _ (by decide), ef_7, va_up_ne _ _ (by omega)]; exact c_301
  have c_10_4_i : f_8 (10 + 4 * i) = .inr (1, [.ref (ad (11 + 4 * i)), .ref (ad (13 + 4 * i)), .int (g 7 i), .int (g 8 i), .int y, .int (g 10 i), .int (g 11 i), .int (g 12 i)]) := by rw [ef_8, va_up_ne _ _ (by omega), va_up_ne _ _ (by omega), va_up_ne _ _ (by omega), va_up_ne _ _ (by omega), va_up_ne _ _ (by omega), va_up_ne _ _ (by omega), va_up_ne _ _ (by omega), va_up_ne _ _ (by omega), va_up_ne _ _ (by omega)]; exact c_10_4_i
  have qn_0 : (va_up n 5 ((n 5) + 1)) 0 = n 0 := by rw [va_up_ne _ _ (by decide)]
  have qn_1 : (va_up n 5 ((n 5) + 1)) 1 = n 1 := by rw [va_up_ne _ _ (by decide)]
  have qn_2 : (va_up n 5 ((n 5) + 1)) 2 = n 2 := by rw [va_up_ne _ _ (by decide)]
  have qn_3 : (va_up n 5 ((n 5) + 1)) 3 = n 3 := by rw [va_up_ne _ _ (by decide)]
  have qn_4 : (va_up n 5 ((n 5) + 1)) 4 = n 4 := by rw [va_up_ne _ _ (by decide)]
  have qn_5 : (va_up n 5 ((n 5) + 1)) 5 = (n 5) + 1 := by rw [va_up_self]
  have qg_0 : (va_up (va_up (va_up (va_up (va_up g 4 (upd (g 4) (n 5) (nI 1))) 5 (upd (g 5) (n 5) (nI i))) 6 (upd (g 6) (n 5) y)) 9 (upd (g 9) i y)) (1000 + (n 5)) (rowD (prevD (fun i8 => g (1000 + i8)) (n 5)) (nI 1) (nI i) y)) 0 = g 0 := by rw [va_up_ne _ _ (by omega), va_up_ne _ _ (by decide), va_up_ne _ _ (by decide), va_up_ne _ _ (by decide), va_up_ne _ _ (by decide)]
  have qg_1 : (va_up (va_up (va_up (va_up (va_up g 4 (upd (g 4) (n 5) (nI 1))) 5 (upd (g 5) (n 5) (nI i))) 6 (upd (g 6) (n 5) y)) 9 (upd (g 9) i y)) (1000 + (n 5)) (rowD (prevD (fun i8 => g (1000 + i8)) (n 5)) (nI 1) (nI i) y)) 1 = g 1 := by rw [va_up_ne _ _ (by omega), va_up_ne _ _ (by decide), va_up_ne _ _ (by decide), va_up_ne _ _ (by decide), va_up_ne _ _ (by decide)]
  have qg_2 : (va_up (va_up (va_up (va_up (va_up g 4 (upd (g 4) (n 5) (nI 1))) 5 (upd (g 5) (n 5) (nI i))) 6 (upd (g 6) (n 5) y)) 9 (upd (g 9) i y)) (1000 + (n 5)) (rowD (prevD (fun i8 => g (1000 + i8)) (n 5)) (nI 1) (nI i) y)) 2 = g 2 := by rw [va_up_ne _ _ (by omega), va_up_ne _ _ (by decide), va_up_ne _ _ (by decide), va_up_ne _ _ (by decide), va_up_ne _ _ (by decide)]
  have qg_3 : (va_up (va_up (va_up (va_up (va_up g 4 (upd (g 4) (n 5) (nI 1))) 5 (upd (g 5) (n 5) (nI i))) 6 (upd (g 6) (n 5) y)) 9 (upd (g 9) i y)) (1000 + (n 5)) (rowD (prevD (fun i8 => g (1000 + i8)) (n 5)) (nI 1) (nI i) y)) 3 = g 3 := by rw [va_up_ne _ _ (by omega), va_up_ne _ _ (by decide), va_up_ne _ _ (by decide), va_up_ne _ _ (by decide), va_up_ne _ _ (by decide)]
  have qg_4 : (va_up (va_up (va_up (va_up (va_up g 4 (upd (g 4) (n 5) (nI 1))) 5 (upd (g 5) (n 5) (nI i))) 6 (upd (g 6) (n 5) y)) 9 (upd (g 9) i y)) (1000 + (n 5)) (rowD (prevD (fun i8 => g (1000 + i8)) (n 5)) (nI 1) (nI i) y)) 4 = upd (g 4) (n 5) (nI 1) := by rw [va_up_ne _ _ (by omega), va_up_ne _ _ (by decide), va_up_ne _ _ (by decide), va_up_ne _ _ (by decide), va_up_self]
  have qg_5 : (va_up (va_up (va_up (va_up (va_up g 4 (upd (g 4) (n 5) (nI 1))) 5 (upd (g 5) (n 5) (nI i))) 6 (upd (g 6) (n 5) y)) 9 (upd (g 9) i y)) (1000 + (n 5)) (rowD (prevD (fun i8 => g (1000 + i8)) (n 5)) (nI 1) (nI i) y)) 5 = upd (g 5) (n 5) (nI i) := by rw [va_up_ne _ _ (by omega), va_up_ne _ _ (by decide), va_up_ne _ _ (by decide), va_up_self]
  have qg_6 : (va_up (va_up (va_up (va_up (va_up g 4 (upd (g 4) (n 5) (nI 1))) 5 (upd (g 5) (n 5) (nI i))) 6 (upd (g 6) (n 5) y)) 9 (upd (g 9) i y)) (1000 + (n 5)) (rowD (prevD (fun i8 => g (1000 + i8)) (n 5)) (nI 1) (nI i) y)) 6 = upd (g 6) (n 5) y := by rw [va_up_ne _ _ (by omega), va_up_ne _ _ (by decide), va_up_self]
  have qg_7 : (va_up (va_up (va_up (va_up (va_up g 4 (upd (g 4) (n 5) (nI 1))) 5 (upd (g 5) (n 5) (nI i))) 6 (upd (g 6) (n 5) y)) 9 (upd (g 9) i y)) (1000 + (n 5)) (rowD (prevD (fun i8 => g (1000 + i8)) (n 5)) (nI 1) (nI i) y)) 7 = g 7 := by rw [va_up_ne _ _ (by omega), va_up_ne _ _ (by decide), va_up_ne _ _ (by decide), va_up_ne _ _ (by decide), va_up_ne _ _ (by decide)]
  have qg_8 : (va_up (va_up (va_up (va_up (va_up g 4 (upd (g 4) (n 5) (nI 1))) 5 (upd (g 5) (n 5) (nI i))) 6 (upd (g 6) (n 5) y)) 9 (upd (g 9) i y)) (1000 + (n 5)) (rowD (prevD (fun i8 => g (1000 + i8)) (n 5)) (nI 1) (nI i) y)) 8 = g 8 := by rw [va_up_ne _ _ (by omega), va_up_ne _ _ (by decide), va_up_ne _ _ (by decide), va_up_ne _ _ (by decide), va_up_ne _ _ (by decide)]
  have qg_9 : (va_up (va_up (va_up (va_up (va_up g 4 (upd (g 4) (n 5) (nI 1))) 5 (upd (g 5) (n 5) (nI i))) 6 (upd (g 6) (n 5) y)) 9 (upd (g 9) i y)) (1000 + (n 5)) (rowD (prevD (fun i8 => g (1000 + i8)) (n 5)) (nI 1) (nI i) y)) 9 = upd (g 9) i y := by rw [va_up_ne _ _ (by omega), va_up_self]
  have qg_10 : (va_up (va_up (va_up (va_up (va_up g 4 (upd (g 4) (n 5) (nI 1))) 5 (upd (g 5) (n 5) (nI i))) 6 (upd (g 6) (n 5) y)) 9 (upd (g 9) i y)) (1000 + (n 5)) (rowD (prevD (fun i8 => g (1000 + i8)) (n 5)) (nI 1) (nI i) y)) 10 = g 10 := by rw [va_up_ne _ _ (by omega), va_up_ne _ _ (by decide), va_up_ne _ _ (by decide), va_up_ne _ _ (by decide), va_up_ne _ _ (by decide)]
  have qg_11 : (va_up (va_up (va_up (va_up (va_up g 4 (upd (g 4) (n 5) (nI 1))) 5 (upd (g 5) (n 5) (nI i))) 6 (upd (g 6) (n 5) y)) 9 (upd (g 9) i y)) (1000 + (n 5)) (rowD (prevD (fun i8 => g (1000 + i8)) (n 5)) (nI 1) (nI i) y)) 11 = g 11 := by rw [va_up_ne _ _ (by omega), va_up_ne _ _ (by decide), va_up_ne _ _ (by decide), va_up_ne _ _ (by decide), va_up_ne _ _ (by decide)]
  have qg_12 : (va_up (va_up (va_up (va_up (va_up g 4 (upd (g 4) (n 5) (nI 1))) 5 (upd (g 5) (n 5) (nI i))) 6 (upd (g 6) (n 5) y)) 9 (upd (g 9) i y)) (1000 + (n 5)) (rowD (prevD (fun i8 => g (1000 + i8)) (n 5)) (nI 1) (nI i) y)) 12 = g 12 := by rw [va_up_ne _ _ (by omega), va_up_ne _ _ (by decide), va_up_ne _ _ (by decide), va_up_ne _ _ (by decide), va_up_ne _ _ (by decide)]
  have qg_13 : (va_up (va_up (va_up (va_up (va_up g 4 (upd (g 4) (n 5) (nI 1))) 5 (upd (g 5) (n 5) (nI i))) 6 (upd (g 6) (n 5) y)) 9 (upd (g 9) i y)) (1000 + (n 5)) (rowD (prevD (fun i8 => g (1000 + i8)) (n 5)) (nI 1) (nI i) y)) 13 = g 13 := by rw [va_up_ne _ _ (by omega), va_up_ne _ _ (by decide), va_up_ne _ _ (by decide), va_up_ne _ _ (by decide), va_up_ne _ _ (by decide)]
  have qz_0 : (va_up (va_up (va_up z_3 2 e1_12) 3 w1_11) 4 sv1_10) 0 = z_3 0 := by rw [va_up_ne _ _ (by decide), va_up_ne _ _ (by decide), va_up_ne _ _ (by decide)]
  have qz_1 : (va_up (va_up (va_up z_3 2 e1_12) 3 w1_11) 4 sv1_10) 1 = z_3 1 := by rw [va_up_ne _ _ (by decide), va_up_ne _ _ (by decide), va_up_ne _ _ (by decide)]
  have qz_2 : (va_up (va_up (va_up z_3 2 e1_12) 3 w1_11) 4 sv1_10) 2 = e1_12 := by rw [va_up_ne _ _ (by decide), va_up_ne _ _ (by decide), va_up_self]
  have qz_3 : (va_up (va_up (va_up z_3 2 e1_12) 3 w1_11) 4 sv1_10) 3 = w1_11 := by rw [va_up_ne _ _ (by decide), va_up_self]
  have qz_4 : (va_up (va_up (va_up z_3 2 e1_12) 3 w1_11) 4 sv1_10) 4 = sv1_10 := by rw [va_up_self]
  have hRz : RepX ca ad (va_up n 5 ((n 5) + 1)) (va_up (va_up (va_up (va_up (va_up g 4 (upd (g 4) (n 5) (nI 1))) 5 (upd (g 5) (n 5) (nI i))) 6 (upd (g 6) (n 5) y)) 9 (upd (g 9) i y)) (1000 + (n 5)) (rowD (prevD (fun i8 => g (1000 + i8)) (n 5)) (nI 1) (nI i) y)) (va_up (va_up (va_up z_3 2 e1_12) 3 w1_11) 4 sv1_10) 44 tb f_8 := ⟨(by rw [qn_0, qn_1, qn_2, qn_3, qg_13]; exact c_0),
        c_1,
        (by rw [qz_0]; exact c_2),
        (by rw [qz_1]; exact c_3),
        c_4,
        c_5,
        (by rw [qn_4]; exact c_6),
        (by rw [qg_0]; exact c_7),
        (by rw [qg_1]; exact c_8),
        c_9,
        (by rw [qn_5]; exact c_90),
        c_91,
        (by rw [qz_2]; exact c_92),
        (by rw [qz_3]; exact c_93),
        c_94,
        (by rw [qz_4]; exact c_95),
        (by rw [qg_4]; exact c_96),
        (by rw [qg_5]; exact c_97),
        (by rw [qg_6]; exact c_98),
        c_99,
        (by rw [qg_2]; exact c_300),
        (by rw [qg_3]; exact c_301),
        (fun i9 hi9 => by
        by_cases ei : i9 = i
        · rw [ei]; simp only [qg_7, qg_8, qg_9, qg_10, qg_11, qg_12, pk_us]; exact c_10_4_i
        · simp only [qg_7, qg_8, qg_9, qg_10, qg_11, qg_12, pk_un ei]; rw [ef_8, va_up_ne _ _ (by omega), va_up_ne _ _ (by omega), va_up_ne _ _ (by omega), va_up_ne _ _ (by omega), va_up_ne _ _ (by omega), va_up_ne _ _ (by omega), va_up_ne _ _ (by omega), va_up_ne _ _ (by omega), va_up_ne _ _ (by omega), ef_7, va_up_ne _ _ (by omega)]; exact F_kf i9 hi9),
        (fun i9 hi9 => by rw [va_up_ne _ _ (by omega)]; rw [ef_8, va_up_ne _ _ (by omega), va_up_ne _ _ (by omega), va_up_ne _ _ (by omega), va_up_ne _ _ (by omega), va_up_ne _ _ (by omega), va_up_ne _ _ (by omega), va_up_ne _ _ (by omega), va_up_ne _ _ (by omega), va_up_ne _ _ (by omega), ef_7, va_up_ne _ _ (by omega)]; exact F_oc i9 hi9),
        (fun i9 hi9 => by rw [va_up_ne _ _ (by omega), va_up_ne _ _ (by omega), va_up_ne _ _ (by omega), va_up_ne _ _ (by omega), va_up_ne _ _ (by omega)]; rw [ef_8, va_up_ne _ _ (by omega), va_up_ne _ _ (by omega), va_up_ne _ _ (by omega), va_up_ne _ _ (by omega), va_up_ne _ _ (by omega), va_up_ne _ _ (by omega), va_up_ne _ _ (by omega), va_up_ne _ _ (by omega), va_up_ne _ _ (by omega), ef_7, va_up_ne _ _ (by omega)]; exact F_va i9 hi9),
        (fun i9 hi9 => by rw [va_up_ne _ _ (by omega), va_up_ne _ _ (by omega), va_up_ne _ _ (by omega), va_up_ne _ _ (by omega), va_up_ne _ _ (by omega)]; rw [ef_8, va_up_ne _ _ (by omega), va_up_ne _ _ (by omega), va_up_ne _ _ (by omega), va_up_ne _ _ (by omega), va_up_ne _ _ (by omega), va_up_ne _ _ (by omega), va_up_ne _ _ (by omega), va_up_ne _ _ (by omega), va_up_ne _ _ (by omega), ef_7, va_up_ne _ _ (by omega)]; exact F_lw i9 hi9),
        (fun i9 hi9 => by
        by_cases ei : i9 = n 5
        · rw [ei, va_up_self]; exact c_100_n_5
        · rw [va_up_ne _ _ (by omega), va_up_ne _ _ (by omega), va_up_ne _ _ (by omega), va_up_ne _ _ (by omega), va_up_ne _ _ (by omega)]; rw [ef_8, va_up_ne _ _ (by omega), va_up_ne _ _ (by omega), va_up_ne _ _ (by omega), va_up_ne _ _ (by omega), va_up_ne _ _ (by omega), va_up_ne _ _ (by omega), va_up_ne _ _ (by omega), va_up_ne _ _ (by omega), va_up_ne _ _ (by omega), ef_7, va_up_ne _ _ (by omega)]; exact F_M i9 hi9), (by first | omega | assumption), hT⟩
  exact x_zret hx hb hr hlocks hw (by first | exact Or.inl rfl | exact Or.inr rfl) ⟨rfl, va_up (va_up (va_up z_3 2 e1_12) 3 w1_11) 4 sv1_10, 44, hRz, (fun y hy => by rw [ef_8, va_up_ne _ _ (by omega), va_up_ne _ _ (by omega), va_up_ne _ _ (by omega), va_up_ne _ _ (by omega), va_up_ne _ _ (by omega), va_up_ne _ _ (by omega), va_up_ne _ _ (by omega), va_up_ne _ _ (by omega), va_up_ne _ _ (by omega), ef_7, va_up_ne _ _ (by omega)]; exact hfr y hy)⟩ dX5_check_49

set_option maxHeartbeats 4000000 in
set_option maxRecDepth 100000 in
theorem k_X5_check_fitF (l : Launch) (D : va_G) (ca : Nat → ClassId) (N : Nat) (ad : Nat → Nat) (B tR tK : Nat) (f : Nat → va_E) (dd : xD N ad B) (hN : 302 ≤ N) (n : Nat → Nat) (g : Nat → Nat → Int32) (z : Nat → Nat → Int32) (zn : Nat) (tb : Nat → Int32) (hR : RepX ca ad n g z zn tb f) (i : Nat) (y : Int32) (hi : i < 20) (hsz : ∀ i, i < 20 → n (10 + i) ≤ 200) (h5 : n 5 = 200) (hf : fitsX n g i i) : xMi l yX5_check wsX5_check rmX5_check [.ref (ad 0), .int (nI i), .int y] D ca N ad B tR tK f (fun r u => nI 1 = r ∧ ∃ (z1 : Nat → Nat → Int32) (zn1 : Nat), RepX ca ad n (va_up g 9 (upd (g 9) i y)) z1 zn1 tb u ∧ ∀ y, 302 ≤ y → u y = f y) := by
  refine x_open (cc := cX5_check) (maxL := 5) (ret := (some .boolean)) (by decide) rfl (Nat.le_of_ble_eq_true rfl) ?_
  intro p e s m below meth c ls hx hb hml hown hts hr hlocks hnm hB hK hE hw hl
  have hown : s.vm.findClass RX5 = some m.cls := hown
  have hl : lv_has ls 5 [(0, .ref (ad 0)), (1, .int (nI i)), (2, .int y)] := hl
  obtain ⟨c_0, c_1, c_2, c_3, c_4, c_5, c_6, c_7, c_8, c_9, c_90, c_91, c_92, c_93, c_94, c_95, c_96, c_97, c_98, c_99, c_300, c_301, F_kf, F_oc, F_va, F_lw, F_M, hzn, hT⟩ := hR
  have hin_6 : ∀ w ∈ u_ws RX5 TX5 13, w ∈ wsX5_check := by decide +kernel
  have hf_49 := hts (.fieldLink RX5 49 "FixityRows" "files" "[LFixityRows$KeptFile;") (by decide +kernel)
  have hin_1 : ∀ w ∈ u_ws RX0 TX0 8, w ∈ wsX5_check := by decide +kernel
  have hf_57 := hts (.fieldLink RX5 57 "FixityRows" "rows" "LFixityRows$RowChain;") (by decide +kernel)
  have b_0 := c_0
  have b_1 := c_1
  have b_2 := c_2
  have b_3 := c_3
  have b_4 := c_4
  have b_5 := c_5
  have b_6 := c_6
  have b_7 := c_7
  have b_8 := c_8
  have b_9 := c_9
  have b_90 := c_90
  have b_91 := c_91
  have b_92 := c_92
  have b_93 := c_93
  have b_94 := c_94
  have b_95 := c_95
  have b_96 := c_96
  have b_97 := c_97
  have b_98 := c_98
  have b_99 := c_99
  have b_300 := c_300
  have b_301 := c_301
  refine lv_aload_n hx hb dX5_check_0 rfl (lv_at hl 0 rfl) ?_
  refine x_get (ci := 6) (C := RX5) (T := TX5) (n := 13) (ref := RX5) hx hb hts hin_6 hown hK hw 0 (by omega) c_0 rfl 6 (by decide) hf_49 (fun _ h => h) rfl dX5_check_1 ?_
  refine lv_iload_n hx hb dX5_check_4 rfl (lv_at hl 1 rfl) ?_
  refine x_aald (j := i) (a := ad (10 + 4 * i)) hx hb hK hw 9 3 (by omega) c_9 rfl rfl (by omega) (by decide) rfl dX5_check_5 ?_
  refine lv_astore_n (lv' := [(3, .ref (ad (10 + 4 * i))), (0, .ref (ad 0)), (1, .int (nI i)), (2, .int y)]) hx hb dX5_check_6 rfl hl (by decide) rfl (fun ls hl => ?_)
  refine lv_aload_n hx hb dX5_check_7 rfl (lv_at hl 1 rfl) ?_
  refine lv_aload_n hx hb dX5_check_8 rfl (lv_at hl 0 rfl) ?_
  have c_10_4_i : f (10 + 4 * i) = .inr (1, [.ref (ad (11 + 4 * i)), .ref (ad (13 + 4 * i)), .int (g 7 i), .int (g 8 i), .int (g 9 i), .int (g 10 i), .int (g 11 i), .int (g 12 i)]) := (F_kf i (by omega))
  refine x_getN (ci := 1) (C := RX0) (T := TX0) (n := 8) (ref := RX0) hx hb hts hin_1 hown hK hw (10 + 4 * i) (by omega) c_10_4_i rfl 0 (by decide) (hE.1 (103, "octets", "LFixityRows$Octets;") (by decide)) (fun _ h => h) rfl dX5_check_9 ?_
  refine lv_aload_n hx hb dX5_check_12 rfl (lv_at hl 0 rfl) ?_
  have hRk : RepX ca ad n g z zn tb f := ⟨c_0,
        c_1,
        c_2,
        c_3,
        c_4,
        c_5,
        c_6,
        c_7,
        c_8,
        c_9,
        c_90,
        c_91,
        c_92,
        c_93,
        c_94,
        c_95,
        c_96,
        c_97,
        c_98,
        c_99,
        c_300,
        c_301,
        (fun i9 hi9 => by exact F_kf i9 hi9),
        (fun i9 hi9 => by exact F_oc i9 hi9),
        (fun i9 hi9 => by exact F_va i9 hi9),
        (fun i9 hi9 => by exact F_lw i9 hi9),
        (fun i9 hi9 => by exact F_M i9 hi9), hzn, hT⟩
  have hfr : ∀ y, 302 ≤ y → f y = f y := (fun _ _ => rfl)
  refine x_Vi (q := 0) (As := [.ref (ad (11 + 4 * i)), .ref (ad (10 + 4 * i))]) (rest := []) ⟨hx, hb, hml, hown, hts⟩ (k_X5_matches_yes l D ca N ad B tR tK f dd hN n g z zn tb hRk i i (by omega) (by omega) hsz hf) (cwV 2 hts gX5_check_X5_matches rfl rfl rfl (by decide +kernel) ⟨Nat.le_of_ble_eq_true rfl, Nat.le_of_ble_eq_true rfl⟩) hK hE hB hw (by omega) c_0 rfl rfl rfl rfl hl.1 (Nat.le_of_ble_eq_true rfl) ⟨Nat.zero_le _, Nat.zero_le _⟩ dX5_check_13 (fun r_2 f_1 H locs hp hw => ?_)
  obtain ⟨er, hp⟩ := hp
  rw [← er]
  obtain ⟨z_3, zn_4, hR2, hfr2⟩ := hp
  have hfr : ∀ y, 302 ≤ y → f_1 y = f y := fun y hy => (hfr2 y hy).trans (hfr y hy)
  obtain ⟨c_0, c_1, c_2, c_3, c_4, c_5, c_6, c_7, c_8, c_9, c_90, c_91, c_92, c_93, c_94, c_95, c_96, c_97, c_98, c_99, c_300, c_301, F_kf, F_oc, F_va, F_lw, F_M, hzn, hT⟩ := hR2
  refine lv_istore (lv' := [(4, .int (nI 1)), (3, .ref (ad (10 + 4 * i))), (0, .ref (ad 0)), (1, .int (nI i)), (2, .int y)]) hx hb dX5_check_16 hl (by decide) rfl (fun ls hl => ?_)
  refine lv_iload hx hb dX5_check_18 (lv_at hl 0 rfl) ?_
  refine lv_if_eq (tgt := 28) hx hb dX5_check_20 (by decide) (fun h => absurd h (by decide)) (fun _ => ?_)
  refine lv_aload_n hx hb dX5_check_23 rfl (lv_at hl 1 rfl) ?_
  refine lv_iload_n hx hb dX5_check_24 rfl (lv_at hl 4 rfl) ?_
  have c_10_4_i : f_1 (10 + 4 * i) = .inr (1, [.ref (ad (11 + 4 * i)), .ref (ad (13 + 4 * i)), .int (g 7 i), .int (g 8 i), .int (g 9 i), .int (g 10 i), .int (g 11 i), .int (g 12 i)]) := (F_kf i (by omega))
  refine x_putN (ci := 1) (C := RX0) (T := TX0) (n := 8) (ref := RX0) (fs' := [.ref (ad (11 + 4 * i)), .ref (ad (13 + 4 * i)), .int (g 7 i), .int (g 8 i), .int y, .int (g 10 i), .int (g 11 i), .int (g 12 i)]) hx hb hts hin_1 tyX0 tyX0_ok nmX0 hown hK dd hw (10 + 4 * i) (by omega) c_10_4_i rfl 4 (by decide) (hE.1 (173, "fittedDay", "I") (by decide)) (fun _ h => h) rfl rfl rfl (Nat.le_of_ble_eq_true rfl) rfl dX5_check_25 (fun H locs hw => ?_)
  obtain ⟨f_7, ef_7⟩ : ∃ z, z = va_up f_1 (10 + 4 * i) (.inr (1, [.ref (ad (11 + 4 * i)), .ref (ad (13 + 4 * i)), .int (g 7 i), .int (g 8 i), .int y, .int (g 10 i), .int (g 11 i), .int (g 12 i)])) := ⟨_, rfl⟩
  have hw : xw D vwCl N ad B s.heap f_7 H locs := by rw [ef_7]; exact hw
  have c_10_4_i : f_7 (10 + 4 * i) = .inr (1, [.ref (ad (11 + 4 * i)), .ref (ad (13 + 4 * i)), .int (g 7 i), .int (g 8 i), .int y, .int (g 10 i), .int (g 11 i), .int (g 12 i)]) := va_up_of ef_7
  refine lv_aload_n hx hb dX5_check_28 rfl (lv_at hl 2 rfl) ?_
  have c_0 : f_7 0 = .inr (6, [.int (nI (n 0)), .ref (ad 1), .ref (ad 4), .ref (ad 6), .ref (ad 8), .int (nI (n 1)), .ref (ad 9), .int (nI (n 2)), .ref (ad 90), .ref (ad 300), .ref (ad 301), .int (nI (n 3)), .int (g 13 0)]) := by rw [ef_7, va_up_ne _ _ (by omega)]; exact c_0
  refine x_get (ci := 6) (C := RX5) (T := TX5) (n := 13) (ref := RX5) hx hb hts hin_6 hown hK hw 0 (by omega) c_0 rfl 8 (by decide) hf_57 (fun _ h => h) rfl dX5_check_29 ?_
  refine lv_iload hx hb dX5_check_32 (lv_at hl 0 rfl) ?_
  refine lv_if_eq (tgt := 41) hx hb dX5_check_34 (by decide) (fun h => absurd h (by decide)) (fun _ => ?_)
  refine lv_iconst (v := nI 1) hx hb dX5_check_37 (by decide) ?_
  refine lv_goto (tgt := 42) hx hb dX5_check_38 (by decide) ?_
  refine lv_iload_n hx hb dX5_check_42 rfl (lv_at hl 3 rfl) ?_
  refine lv_iload_n hx hb dX5_check_43 rfl (lv_at hl 4 rfl) ?_
  have c_90 : f_7 90 = .inr (4, [.ref (ad 91), .ref (ad 94), .ref (ad 96), .ref (ad 97), .ref (ad 98), .ref (ad 99), .int (nI (n 5))]) := by rw [ef_7, va_up_ne _ _ (by omega)]; exact c_90
  refine x_Vv (q := 90) (As := [.int (nI 1), .int (nI i), .int y]) (rest := []) ⟨hx, hb, hml, hown, hts⟩ (k_X3_append_full l D ca N ad B tR tK f_7 dd (n 5) (nI 1) (nI i) y c_90  (by omega) (by omega)) (cwV 3 hts gX5_check_X3_append rfl rfl rfl (by decide +kernel) ⟨Nat.le_of_ble_eq_true rfl, Nat.le_of_ble_eq_true rfl⟩) hK hE hB hw (by omega) c_90 rfl rfl rfl rfl hl.1 (Nat.le_of_ble_eq_true rfl) ⟨Nat.zero_le _, Nat.zero_le _⟩ dX5_check_44 (fun f_8 H locs hp hw => ?_)
  have eu := hp
  rw [← eu] at hw
  refine lv_iload hx hb dX5_check_47 (lv_at hl 0 rfl) ?_
  have c_1 : f_7 1 = .inr (2, [.ref (ad 2), .ref (ad 3)]) := by rw [ef_7, va_up_ne _ _ (by omega)]; exact c_1
  have c_2 : f_7 2 = ai (ca 0) 8 (z_3 0) := by rw [ef_7, va_up_ne _ _ (by omega)]; exact c_2
  have c_3 : f_7 3 = ai (ca 0) 64 (z_3 1) := by rw [ef_7, va_up_ne _ _ (by omega)]; exact c_3
  have c_4 : f_7 4 = .inr (5, [.ref (ad 5)]) := by rw [ef_7, va_up_ne _ _ (by omega)]; exact c_4
  have c_5 : f_7 5 = ai (ca 0) 256 tb := by rw [ef_7, va_up_ne _ _ (by omega)]; exact c_5
  have c_6 : f_7 6 = .inr (3, [.ref (ad 7), .int (nI (n 4))]) := by rw [ef_7, va_up_ne _ _ (by omega)]; exact c_6
  have c_7 : f_7 7 = ai (ca 0) 200 (g 0) := by rw [ef_7, va_up_ne _ _ (by omega)]; exact c_7
  have c_8 : f_7 8 = ai (ca 0) 8 (g 1) := by rw [ef_7, va_up_ne _ _ (by omega)]; exact c_8
  have c_9 : f_7 9 = aq (ca 3) 20 (fun i => some (ad (10 + 4 * i))) := by rw [ef_7, va_up_ne _ _ (by omega)]; exact c_9
  have c_91 : f_7 91 = .inr (2, [.ref (ad 92), .ref (ad 93)]) := by rw [ef_7, va_up_ne _ _ (by omega)]; exact c_91
  have c_92 : f_7 92 = ai (ca 0) 8 (z_3 2) := by rw [ef_7, va_up_ne _ _ (by omega)]; exact c_92
  have c_93 : f_7 93 = ai (ca 0) 64 (z_3 3) := by rw [ef_7, va_up_ne _ _ (by omega)]; exact c_93
  have c_94 : f_7 94 = .inr (3, [.ref (ad 95), .int (nI zn_4)]) := by rw [ef_7, va_up_ne _ _ (by omega)]; exact c_94
  have c_95 : f_7 95 = ai (ca 0) 200 (z_3 4) := by rw [ef_7, va_up_ne _ _ (by omega)]; exact c_95
  have c_96 : f_7 96 = ai (ca 0) 200 (g 4) := by rw [ef_7, va_up_ne _ _ (by omega)]; exact c_96
  have c_97 : f_7 97 = ai (ca 0) 200 (g 5) := by rw [ef_7, va_up_ne _ _ (by omega)]; exact c_97
  have c_98 : f_7 98 = ai (ca 0) 200 (g 6) := by rw [ef_7, va_up_ne _ _ (by omega)]; exact c_98
  have c_99 : f_7 99 = aq (ca 4) 200 (fun i => some (ad (100 + i))) := by rw [ef_7, va_up_ne _ _ (by omega)]; exact c_99
  have c_300 : f_7 300 = ai (ca 0) 20 (g 2) := by rw [ef_7, va_up_ne _ _ (by omega)]; exact c_300
  have c_301 : f_7 301 = ai (ca 2) 20 (g 3) := by rw [ef_7, va_up_ne _ _ (by omega)]; exact c_301
  have qg_0 : (va_up g 9 (upd (g 9) i y)) 0 = g 0 := by rw [va_up_ne _ _ (by decide)]
  have qg_1 : (va_up g 9 (upd (g 9) i y)) 1 = g 1 := by rw [va_up_ne _ _ (by decide)]
  have qg_2 : (va_up g 9 (upd (g 9) i y)) 2 = g 2 := by rw [va_up_ne _ _ (by decide)]
  have qg_3 : (va_up g 9 (upd (g 9) i y)) 3 = g 3 := by rw [va_up_ne _ _ (by decide)]
  have qg_4 : (va_up g 9 (upd (g 9) i y)) 4 = g 4 := by rw [va_up_ne _ _ (by decide)]
  have qg_5 : (va_up g 9 (upd (g 9) i y)) 5 = g 5 := by rw [va_up_ne _ _ (by decide)]
  have qg_6 : (va_up g 9 (upd (g 9) i y)) 6 = g 6 := by rw [va_up_ne _ _ (by decide)]
  have qg_7 : (va_up g 9 (upd (g 9) i y)) 7 = g 7 := by rw [va_up_ne _ _ (by decide)]
  have qg_8 : (va_up g 9 (upd (g 9) i y)) 8 = g 8 := by rw [va_up_ne _ _ (by decide)]
  have qg_9 : (va_up g 9 (upd (g 9) i y)) 9 = upd (g 9) i y := by rw [va_up_self]
  have qg_10 : (va_up g 9 (upd (g 9) i y)) 10 = g 10 := by rw [va_up_ne _ _ (by decide)]
  have qg_11 : (va_up g 9 (upd (g 9) i y)) 11 = g 11 := by rw [va_up_ne _ _ (by decide)]
  have qg_12 : (va_up g 9 (upd (g 9) i y)) 12 = g 12 := by rw [va_up_ne _ _ (by decide)]
  have qg_13 : (va_up g 9 (upd (g 9) i y)) 13 = g 13 := by rw [va_up_ne _ _ (by decide)]
  have hRz : RepX ca ad n (va_up g 9 (upd (g 9) i y)) z_3 zn_4 tb f_7 := ⟨(by rw [qg_13]; exact c_0),
        c_1,
        c_2,
        c_3,
        c_4,
        c_5,
        c_6,
        (by rw [qg_0]; exact c_7),
        (by rw [qg_1]; exact c_8),
        c_9,
        c_90,
        c_91,
        c_92,
        c_93,
        c_94,
        c_95,
        (by rw [qg_4]; exact c_96),
        (by rw [qg_5]; exact c_97),
        (by rw [qg_6]; exact c_98),
        c_99,
        (by rw [qg_2]; exact c_300),
        (by rw [qg_3]; exact c_301),
        (fun i9 hi9 => by
        by_cases ei : i9 = i
        · rw [ei]; simp only [qg_7, qg_8, qg_9, qg_10, qg_11, qg_12, pk_us]; exact c_10_4_i
        · simp only [qg_7, qg_8, qg_9, qg_10, qg_11, qg_12, pk_un ei]; rw [ef_7, va_up_ne _ _ (by omega)]; exact F_kf i9 hi9),
        (fun i9 hi9 => by rw [ef_7, va_up_ne _ _ (by omega)]; exact F_oc i9 hi9),
        (fun i9 hi9 => by rw [va_up_ne _ _ (by omega)]; rw [ef_7, va_up_ne _ _ (by omega)]; exact F_va i9 hi9),
        (fun i9 hi9 => by rw [va_up_ne _ _ (by omega)]; rw [ef_7, va_up_ne _ _ (by omega)]; exact F_lw i9 hi9),
        (fun i9 hi9 => by rw [va_up_ne _ _ (by omega)]; rw [ef_7, va_up_ne _ _ (by omega)]; exact F_M i9 hi9), hzn, hT⟩
  exact x_zret hx hb hr hlocks hw (by first | exact Or.inl rfl | exact Or.inr rfl) ⟨rfl, z_3, zn_4, hRz, (fun y hy => by rw [ef_7, va_up_ne _ _ (by omega)]; exact hfr y hy)⟩ dX5_check_49

set_option maxHeartbeats 4000000 in
set_option maxRecDepth 100000 in
theorem k_X5_check_no (l : Launch) (D : va_G) (ca : Nat → ClassId) (N : Nat) (ad : Nat → Nat) (B tR tK : Nat) (f : Nat → va_E) (dd : xD N ad B) (hN : 302 ≤ N) (n : Nat → Nat) (g : Nat → Nat → Int32) (z : Nat → Nat → Int32) (zn : Nat) (tb : Nat → Int32) (hR : RepX ca ad n g z zn tb f) (i : Nat) (y : Int32) (hi : i < 20) (hsz : ∀ i, i < 20 → n (10 + i) ≤ 200) (h5 : n 5 < 200) (hf : ¬ fitsX n g i i) : xMi l yX5_check wsX5_check rmX5_check [.ref (ad 0), .int (nI i), .int y] D ca N ad B tR tK f (fun r u => nI 0 = r ∧ ∃ (z1 : Nat → Nat → Int32) (zn1 : Nat), RepX ca ad (va_up n 5 ((n 5) + 1)) (va_up (va_up (va_up (va_up g 4 (upd (g 4) (n 5) (nI 2))) 5 (upd (g 5) (n 5) (nI i))) 6 (upd (g 6) (n 5) y)) (1000 + (n 5)) (rowD (prevD (fun i8 => g (1000 + i8)) (n 5)) (nI 2) (nI i) y)) z1 zn1 tb u ∧ ∀ y, 302 ≤ y → u y = f y) := by
  refine x_open (cc := cX5_check) (maxL := 5) (ret := (some .boolean)) (by decide) rfl (Nat.le_of_ble_eq_true rfl) ?_
  intro p e s m below meth c ls hx hb hml hown hts hr hlocks hnm hB hK hE hw hl
  have hown : s.vm.findClass RX5 = some m.cls := hown
  have hl : lv_has ls 5 [(0, .ref (ad 0)), (1, .int (nI i)), (2, .int y)] := hl
  obtain ⟨c_0, c_1, c_2, c_3, c_4, c_5, c_6, c_7, c_8, c_9, c_90, c_91, c_92, c_93, c_94, c_95, c_96, c_97, c_98, c_99, c_300, c_301, F_kf, F_oc, F_va, F_lw, F_M, hzn, hT⟩ := hR
  have hin_6 : ∀ w ∈ u_ws RX5 TX5 13, w ∈ wsX5_check := by decide +kernel
  have hf_49 := hts (.fieldLink RX5 49 "FixityRows" "files" "[LFixityRows$KeptFile;") (by decide +kernel)
  have hin_1 : ∀ w ∈ u_ws RX0 TX0 8, w ∈ wsX5_check := by decide +kernel
  have hf_57 := hts (.fieldLink RX5 57 "FixityRows" "rows" "LFixityRows$RowChain;") (by decide +kernel)
  have b_0 := c_0
  have b_1 := c_1
  have b_2 := c_2
  have b_3 := c_3
  have b_4 := c_4
  have b_5 := c_5
  have b_6 := c_6
  have b_7 := c_7
  have b_8 := c_8
  have b_9 := c_9
  have b_90 := c_90
  have b_91 := c_91
  have b_92 := c_92
  have b_93 := c_93
  have b_94 := c_94
  have b_95 := c_95
  have b_96 := c_96
  have b_97 := c_97
  have b_98 := c_98
  have b_99 := c_99
  have b_300 := c_300
  have b_301 := c_301
  refine lv_aload_n hx hb dX5_check_0 rfl (lv_at hl 0 rfl) ?_
  refine x_get (ci := 6) (C := RX5) (T := TX5) (n := 13) (ref := RX5) hx hb hts hin_6 hown hK hw 0 (by omega) c_0 rfl 6 (by decide) hf_49 (fun _ h => h) rfl dX5_check_1 ?_
  refine lv_iload_n hx hb dX5_check_4 rfl (lv_at hl 1 rfl) ?_
  refine x_aald (j := i) (a := ad (10 + 4 * i)) hx hb hK hw 9 3 (by omega) c_9 rfl rfl (by omega) (by decide) rfl dX5_check_5 ?_
  refine lv_astore_n (lv' := [(3, .ref (ad (10 + 4 * i))), (0, .ref (ad 0)), (1, .int (nI i)), (2, .int y)]) hx hb dX5_check_6 rfl hl (by decide) rfl (fun ls hl => ?_)
  refine lv_aload_n hx hb dX5_check_7 rfl (lv_at hl 1 rfl) ?_
  refine lv_aload_n hx hb dX5_check_8 rfl (lv_at hl 0 rfl) ?_
  have c_10_4_i : f (10 + 4 * i) = .inr (1, [.ref (ad (11 + 4 * i)), .ref (ad (13 + 4 * i)), .int (g 7 i), .int (g 8 i), .int (g 9 i), .int (g 10 i), .int (g 11 i), .int (g 12 i)]) := (F_kf i (by omega))
  refine x_getN (ci := 1) (C := RX0) (T := TX0) (n := 8) (ref := RX0) hx hb hts hin_1 hown hK hw (10 + 4 * i) (by omega) c_10_4_i rfl 0 (by decide) (hE.1 (103, "octets", "LFixityRows$Octets;") (by decide)) (fun _ h => h) rfl dX5_check_9 ?_
  refine lv_aload_n hx hb dX5_check_12 rfl (lv_at hl 0 rfl) ?_
  have hRk : RepX ca ad n g z zn tb f := ⟨c_0,
        c_1,
        c_2,
        c_3,
        c_4,
        c_5,
        c_6,
        c_7,
        c_8,
        c_9,
        c_90,
        c_91,
        c_92,
        c_93,
        c_94,
        c_95,
        c_96,
        c_97,
        c_98,
        c_99,
        c_300,
        c_301,
        (fun i9 hi9 => by exact F_kf i9 hi9),
        (fun i9 hi9 => by exact F_oc i9 hi9),
        (fun i9 hi9 => by exact F_va i9 hi9),
        (fun i9 hi9 => by exact F_lw i9 hi9),
        (fun i9 hi9 => by exact F_M i9 hi9), hzn, hT⟩
  have hfr : ∀ y, 302 ≤ y → f y = f y := (fun _ _ => rfl)
  refine x_Vi (q := 0) (As := [.ref (ad (11 + 4 * i)), .ref (ad (10 + 4 * i))]) (rest := []) ⟨hx, hb, hml, hown, hts⟩ (k_X5_matches_no l D ca N ad B tR tK f dd hN n g z zn tb hRk i i (by omega) (by omega) hsz hf) (cwV 2 hts gX5_check_X5_matches rfl rfl rfl (by decide +kernel) ⟨Nat.le_of_ble_eq_true rfl, Nat.le_of_ble_eq_true rfl⟩) hK hE hB hw (by omega) c_0 rfl rfl rfl rfl hl.1 (Nat.le_of_ble_eq_true rfl) ⟨Nat.zero_le _, Nat.zero_le _⟩ dX5_check_13 (fun r_2 f_1 H locs hp hw => ?_)
  obtain ⟨er, hp⟩ := hp
  rw [← er]
  obtain ⟨z_3, zn_4, hR2, hfr2⟩ := hp
  have hfr : ∀ y, 302 ≤ y → f_1 y = f y := fun y hy => (hfr2 y hy).trans (hfr y hy)
  obtain ⟨c_0, c_1, c_2, c_3, c_4, c_5, c_6, c_7, c_8, c_9, c_90, c_91, c_92, c_93, c_94, c_95, c_96, c_97, c_98, c_99, c_300, c_301, F_kf, F_oc, F_va, F_lw, F_M, hzn, hT⟩ := hR2
  refine lv_istore (lv' := [(4, .int (nI 0)), (3, .ref (ad (10 + 4 * i))), (0, .ref (ad 0)), (1, .int (nI i)), (2, .int y)]) hx hb dX5_check_16 hl (by decide) rfl (fun ls hl => ?_)
  refine lv_iload hx hb dX5_check_18 (lv_at hl 0 rfl) ?_
  refine lv_if_eq (tgt := 28) hx hb dX5_check_20 (by decide) (fun _ => ?_) (fun h => False.elim (h (by decide)))
  refine lv_aload_n hx hb dX5_check_28 rfl (lv_at hl 2 rfl) ?_
  refine x_get (ci := 6) (C := RX5) (T := TX5) (n := 13) (ref := RX5) hx hb hts hin_6 hown hK hw 0 (by omega) c_0 rfl 8 (by decide) hf_57 (fun _ h => h) rfl dX5_check_29 ?_
  refine lv_iload hx hb dX5_check_32 (lv_at hl 0 rfl) ?_
  refine lv_if_eq (tgt := 41) hx hb dX5_check_34 (by decide) (fun _ => ?_) (fun h => False.elim (h (by decide)))
  refine lv_iconst (v := nI 2) hx hb dX5_check_41 (by decide) ?_
  refine lv_iload_n hx hb dX5_check_42 rfl (lv_at hl 3 rfl) ?_
  refine lv_iload_n hx hb dX5_check_43 rfl (lv_at hl 4 rfl) ?_
  refine x_Vv (q := 90) (As := [.int (nI 2), .int (nI i), .int y]) (rest := []) ⟨hx, hb, hml, hown, hts⟩ (k_X3_append_in l D ca N ad B tR tK f_1 dd (n 5) (z_3 2) (z_3 3) zn_4 (z_3 4) (g 4) (g 5) (g 6) (fun i8 => g (1000 + i8)) (nI 2) (nI i) y c_90 c_91 c_92 c_93 c_94 c_95 c_96 c_97 c_98 c_99 F_M (by omega) (by omega) (by omega)) (cwV 3 hts gX5_check_X3_append rfl rfl rfl (by decide +kernel) ⟨Nat.le_of_ble_eq_true rfl, Nat.le_of_ble_eq_true rfl⟩) hK hE hB hw (by omega) c_90 rfl rfl rfl rfl hl.1 (Nat.le_of_ble_eq_true rfl) ⟨Nat.zero_le _, Nat.zero_le _⟩ dX5_check_44 (fun f_7 H locs hp hw => ?_)
  obtain ⟨sv1_9, w1_10, e1_11, eu⟩ := hp
  have ef_7 : f_7 = va_up (va_up (va_up (va_up (va_up (va_up (va_up (va_up (va_up f_1 96 (ai (ca 0) 200 (upd (g 4) (n 5) (nI 2)))) 97 (ai (ca 0) 200 (upd (g 5) (n 5) (nI i)))) 98 (ai (ca 0) 200 (upd (g 6) (n 5) y))) 90 (.inr (4, [.ref (ad 91), .ref (ad 94), .ref (ad 96), .ref (ad 97), .ref (ad 98), .ref (ad 99), .int (nI ((n 5) + 1))]))) 95 (ai (ca 0) 200 sv1_9)) 94 (.inr (3, [.ref (ad 95), .int (nI 44)]))) 93 (ai (ca 0) 64 w1_10)) 92 (ai (ca 0) 8 e1_11)) (100 + (n 5)) (ai (ca 0) 8 (rowD (prevD (fun i8 => g (1000 + i8)) (n 5)) (nI 2) (nI i) y)) := eu
  have c_96 : f_7 96 = ai (ca 0) 200 (upd (g 4) (n 5) (nI 2)) := by rw [ef_7, va_up_ne _ _ (by omega), va_up_ne _ _ (by decide), va_up_ne _ _ (by decide), va_up_ne _ _ (by decide), va_up_ne _ _ (by decide), va_up_ne _ _ (by decide), va_up_ne _ _ (by decide), va_up_ne _ _ (by decide), va_up_self]
  have c_97 : f_7 97 = ai (ca 0) 200 (upd (g 5) (n 5) (nI i)) := by rw [ef_7, va_up_ne _ _ (by omega), va_up_ne _ _ (by decide), va_up_ne _ _ (by decide), va_up_ne _ _ (by decide), va_up_ne _ _ (by decide), va_up_ne _ _ (by decide), va_up_ne _ _ (by decide), va_up_self]
  have c_98 : f_7 98 = ai (ca 0) 200 (upd (g 6) (n 5) y) := by rw [ef_7, va_up_ne _ _ (by omega), va_up_ne _ _ (by decide), va_up_ne _ _ (by decide), va_up_ne _ _ (by decide), va_up_ne _ _ (by decide), va_up_ne _ _ (by decide), va_up_self]
  have c_90 : f_7 90 = .inr (4, [.ref (ad 91), .ref (ad 94), .ref (ad 96), .ref (ad 97), .ref (ad 98), .ref (ad 99), .int (nI ((n 5) + 1))]) := by rw [ef_7, va_up_ne _ _ (by omega), va_up_ne _ _ (by decide), va_up_ne _ _ (by decide), va_up_ne _ _ (by decide), va_up_ne _ _ (by decide), va_up_self]
  have c_95 : f_7 95 = ai (ca 0) 200 sv1_9 := by rw [ef_7, va_up_ne _ _ (by omega), va_up_ne _ _ (by decide), va_up_ne _ _ (by decide), va_up_ne _ _ (by decide), va_up_self]
  have c_94 : f_7 94 = .inr (3, [.ref (ad 95), .int (nI 44)]) := by rw [ef_7, va_up_ne _ _ (by omega), va_up_ne _ _ (by decide), va_up_ne _ _ (by decide), va_up_self]
  have c_93 : f_7 93 = ai (ca 0) 64 w1_10 := by rw [ef_7, va_up_ne _ _ (by omega), va_up_ne _ _ (by decide), va_up_self]
  have c_92 : f_7 92 = ai (ca 0) 8 e1_11 := by rw [ef_7, va_up_ne _ _ (by omega), va_up_self]
  have c_100_n_5 : f_7 (100 + (n 5)) = ai (ca 0) 8 (rowD (prevD (fun i8 => g (1000 + i8)) (n 5)) (nI 2) (nI i) y) := by rw [ef_7, va_up_self]
  refine lv_iload hx hb dX5_check_47 (lv_at hl 0 rfl) ?_
  have c_0 : f_7 0 = .inr (6, [.int (nI (n 0)), .ref (ad 1), .ref (ad 4), .ref (ad 6), .ref (ad 8), .int (nI (n 1)), .ref (ad 9), .int (nI (n 2)), .ref (ad 90), .ref (ad 300), .ref (ad 301), .int (nI (n 3)), .int (g 13 0)]) := by rw [ef_7, va_up_ne _ _ (by omega), va_up_ne _ _ (by decide), va_up_ne _ _ (by decide), va_up_ne _ _ (by decide), va_up_ne _ _ (by decide), va_up_ne _ _ (by decide), va_up_ne _ _ (by decide), va_up_ne _ _ (by decide), va_up_ne _ _ (by decide)]; exact c_0
  have c_1 : f_7 1 = .inr (2, [.ref (ad 2), .ref (ad 3)]) := by rw [ef_7, va_up_ne _ _ (by omega), va_up_ne _ _ (by decide), va_up_ne _ _ (by decide), va_up_ne _ _ (by decide), va_up_ne _ _ (by decide), va_up_ne _ _ (by decide), va_up_ne _ _ (by decide), va_up_ne _ _ (by decide), va_up_ne _ _ (by decide)]; exact c_1
  have c_2 : f_7 2 = ai (ca 0) 8 (z_3 0) := by rw [ef_7, va_up_ne _ _ (by omega), va_up_ne _ _ (by decide), va_up_ne _ _ (by decide), va_up_ne _ _ (by decide), va_up_ne _ _ (by decide), va_up_ne _ _ (by decide), va_up_ne _ _ (by decide), va_up_ne _ _ (by decide), va_up_ne _ _ (by decide)]; exact c_2
  have c_3 : f_7 3 = ai (ca 0) 64 (z_3 1) := by rw [ef_7, va_up_ne _ _ (by omega), va_up_ne _ _ (by decide), va_up_ne _ _ (by decide), va_up_ne _ _ (by decide), va_up_ne _ _ (by decide), va_up_ne _ _ (by decide), va_up_ne _ _ (by decide), va_up_ne _ _ (by decide), va_up_ne _ _ (by decide)]; exact c_3
  have c_4 : f_7 4 = .inr (5, [.ref (ad 5)]) := by rw [ef_7, va_up_ne _ _ (by omega), va_up_ne _ _ (by decide), va_up_ne _ _ (by decide), va_up_ne _ _ (by decide), va_up_ne _ _ (by decide), va_up_ne _ _ (by decide), va_up_ne _ _ (by decide), va_up_ne _ _ (by decide), va_up_ne _ _ (by decide)]; exact c_4
  have c_5 : f_7 5 = ai (ca 0) 256 tb := by rw [ef_7, va_up_ne _ _ (by omega), va_up_ne _ _ (by decide), va_up_ne _ _ (by decide), va_up_ne _ _ (by decide), va_up_ne _ _ (by decide), va_up_ne _ _ (by decide), va_up_ne _ _ (by decide), va_up_ne _ _ (by decide), va_up_ne _ _ (by decide)]; exact c_5
  have c_6 : f_7 6 = .inr (3, [.ref (ad 7), .int (nI (n 4))]) := by rw [ef_7, va_up_ne _ _ (by omega), va_up_ne _ _ (by decide), va_up_ne _ _ (by decide), va_up_ne _ _ (by decide), va_up_ne _ _ (by decide), va_up_ne _ _ (by decide), va_up_ne _ _ (by decide), va_up_ne _ _ (by decide), va_up_ne _ _ (by decide)]; exact c_6
  have c_7 : f_7 7 = ai (ca 0) 200 (g 0) := by rw [ef_7, va_up_ne _ _ (by omega), va_up_ne _ _ (by decide), va_up_ne _ _ (by decide), va_up_ne _ _ (by decide), va_up_ne _ _ (by decide), va_up_ne _ _ (by decide), va_up_ne _ _ (by decide), va_up_ne _ _ (by decide), va_up_ne _ _ (by decide)]; exact c_7
  have c_8 : f_7 8 = ai (ca 0) 8 (g 1) := by rw [ef_7, va_up_ne _ _ (by omega), va_up_ne _ _ (by decide), va_up_ne _ _ (by decide), va_up_ne _ _ (by decide), va_up_ne _ _ (by decide), va_up_ne _ _ (by decide), va_up_ne _ _ (by decide), va_up_ne _ _ (by decide), va_up_ne _ _ (by decide)]; exact c_8
  have c_9 : f_7 9 = aq (ca 3) 20 (fun i => some (ad (10 + 4 * i))) := by rw [ef_7, va_up_ne _ _ (by omega), va_up_ne _ _ (by decide), va_up_ne _ _ (by decide), va_up_ne _ _ (by decide), va_up_ne _ _ (by decide), va_up_ne _ _ (by decide), va_up_ne _ _ (by decide), va_up_ne _ _ (by decide), va_up_ne _ _ (by decide)]; exact c_9
  have c_91 : f_7 91 = .inr (2, [.ref (ad 92), .ref (ad 93)]) := by rw [ef_7, va_up_ne _ _ (by omega), va_up_ne _ _ (by decide), va_up_ne _ _ (by decide), va_up_ne _ _ (by decide), va_up_ne _ _ (by decide), va_up_ne _ _ (by decide), va_up_ne _ _ (by decide), va_up_ne _ _ (by decide), va_up_ne _ _ (by decide)]; exact c_91
  have c_99 : f_7 99 = aq (ca 4) 200 (fun i => some (ad (100 + i))) := by rw [ef_7, va_up_ne _ _ (by omega), va_up_ne _ _ (by decide), va_up_ne _ _ (by decide), va_up_ne _ _ (by decide), va_up_ne _ _ (by decide), va_up_ne _ _ (by decide), va_up_ne _ _ (by decide), va_up_ne _ _ (by decide), va_up_ne _ _ (by decide)]; exact c_99
  have c_300 : f_7 300 = ai (ca 0) 20 (g 2) := by rw [ef_7, va_up_ne _ _ (by omega), va_up_ne _ _ (by decide), va_up_ne _ _ (by decide), va_up_ne _ _ (by decide), va_up_ne _ _ (by decide), va_up_ne _ _ (by decide), va_up_ne _ _ (by decide), va_up_ne _ _ (by decide), va_up_ne _ _ (by decide)]; exact c_300
  have c_301 : f_7 301 = ai (ca 2) 20 (g 3) := by rw [ef_7, va_up_ne _ _ (by omega), va_up_ne _ _ (by decide), va_up_ne _ _ (by decide), va_up_ne _ _ (by decide), va_up_ne _ _ (by decide), va_up_ne _ _ (by decide), va_up_ne _ _ (by decide), va_up_ne _ _ (by decide), va_up_ne _ _ (by decide)]; exact c_301
  have qn_0 : (va_up n 5 ((n 5) + 1)) 0 = n 0 := by rw [va_up_ne _ _ (by decide)]
  have qn_1 : (va_up n 5 ((n 5) + 1)) 1 = n 1 := by rw [va_up_ne _ _ (by decide)]
  have qn_2 : (va_up n 5 ((n 5) + 1)) 2 = n 2 := by rw [va_up_ne _ _ (by decide)]
  have qn_3 : (va_up n 5 ((n 5) + 1)) 3 = n 3 := by rw [va_up_ne _ _ (by decide)]
  have qn_4 : (va_up n 5 ((n 5) + 1)) 4 = n 4 := by rw [va_up_ne _ _ (by decide)]
  have qn_5 : (va_up n 5 ((n 5) + 1)) 5 = (n 5) + 1 := by rw [va_up_self]
  have qg_0 : (va_up (va_up (va_up (va_up g 4 (upd (g 4) (n 5) (nI 2))) 5 (upd (g 5) (n 5) (nI i))) 6 (upd (g 6) (n 5) y)) (1000 + (n 5)) (rowD (prevD (fun i8 => g (1000 + i8)) (n 5)) (nI 2) (nI i) y)) 0 = g 0 := by rw [va_up_ne _ _ (by omega), va_up_ne _ _ (by decide), va_up_ne _ _ (by decide), va_up_ne _ _ (by decide)]
  have qg_1 : (va_up (va_up (va_up (va_up g 4 (upd (g 4) (n 5) (nI 2))) 5 (upd (g 5) (n 5) (nI i))) 6 (upd (g 6) (n 5) y)) (1000 + (n 5)) (rowD (prevD (fun i8 => g (1000 + i8)) (n 5)) (nI 2) (nI i) y)) 1 = g 1 := by rw [va_up_ne _ _ (by omega), va_up_ne _ _ (by decide), va_up_ne _ _ (by decide), va_up_ne _ _ (by decide)]
  have qg_2 : (va_up (va_up (va_up (va_up g 4 (upd (g 4) (n 5) (nI 2))) 5 (upd (g 5) (n 5) (nI i))) 6 (upd (g 6) (n 5) y)) (1000 + (n 5)) (rowD (prevD (fun i8 => g (1000 + i8)) (n 5)) (nI 2) (nI i) y)) 2 = g 2 := by rw [va_up_ne _ _ (by omega), va_up_ne _ _ (by decide), va_up_ne _ _ (by decide), va_up_ne _ _ (by decide)]
  have qg_3 : (va_up (va_up (va_up (va_up g 4 (upd (g 4) (n 5) (nI 2))) 5 (upd (g 5) (n 5) (nI i))) 6 (upd (g 6) (n 5) y)) (1000 + (n 5)) (rowD (prevD (fun i8 => g (1000 + i8)) (n 5)) (nI 2) (nI i) y)) 3 = g 3 := by rw [va_up_ne _ _ (by omega), va_up_ne _ _ (by decide), va_up_ne _ _ (by decide), va_up_ne _ _ (by decide)]
  have qg_4 : (va_up (va_up (va_up (va_up g 4 (upd (g 4) (n 5) (nI 2))) 5 (upd (g 5) (n 5) (nI i))) 6 (upd (g 6) (n 5) y)) (1000 + (n 5)) (rowD (prevD (fun i8 => g (1000 + i8)) (n 5)) (nI 2) (nI i) y)) 4 = upd (g 4) (n 5) (nI 2) := by rw [va_up_ne _ _ (by omega), va_up_ne _ _ (by decide), va_up_ne _ _ (by decide), va_up_self]
  have qg_5 : (va_up (va_up (va_up (va_up g 4 (upd (g 4) (n 5) (nI 2))) 5 (upd (g 5) (n 5) (nI i))) 6 (upd (g 6) (n 5) y)) (1000 + (n 5)) (rowD (prevD (fun i8 => g (1000 + i8)) (n 5)) (nI 2) (nI i) y)) 5 = upd (g 5) (n 5) (nI i) := by rw [va_up_ne _ _ (by omega), va_up_ne _ _ (by decide), va_up_self]
  have qg_6 : (va_up (va_up (va_up (va_up g 4 (upd (g 4) (n 5) (nI 2))) 5 (upd (g 5) (n 5) (nI i))) 6 (upd (g 6) (n 5) y)) (1000 + (n 5)) (rowD (prevD (fun i8 => g (1000 + i8)) (n 5)) (nI 2) (nI i) y)) 6 = upd (g 6) (n 5) y := by rw [va_up_ne _ _ (by omega), va_up_self]
  have qg_7 : (va_up (va_up (va_up (va_up g 4 (upd (g 4) (n 5) (nI 2))) 5 (upd (g 5) (n 5) (nI i))) 6 (upd (g 6) (n 5) y)) (1000 + (n 5)) (rowD (prevD (fun i8 => g (1000 + i8)) (n 5)) (nI 2) (nI i) y)) 7 = g 7 := by rw [va_up_ne _ _ (by omega), va_up_ne _ _ (by decide), va_up_ne _ _ (by decide), va_up_ne _ _ (by decide)]
  have qg_8 : (va_up (va_up (va_up (va_up g 4 (upd (g 4) (n 5) (nI 2))) 5 (upd (g 5) (n 5) (nI i))) 6 (upd (g 6) (n 5) y)) (1000 + (n 5)) (rowD (prevD (fun i8 => g (1000 + i8)) (n 5)) (nI 2) (nI i) y)) 8 = g 8 := by rw [va_up_ne _ _ (by omega), va_up_ne _ _ (by decide), va_up_ne _ _ (by decide), va_up_ne _ _ (by decide)]
  have qg_9 : (va_up (va_up (va_up (va_up g 4 (upd (g 4) (n 5) (nI 2))) 5 (upd (g 5) (n 5) (nI i))) 6 (upd (g 6) (n 5) y)) (1000 + (n 5)) (rowD (prevD (fun i8 => g (1000 + i8)) (n 5)) (nI 2) (nI i) y)) 9 = g 9 := by rw [va_up_ne _ _ (by omega), va_up_ne _ _ (by decide), va_up_ne _ _ (by decide), va_up_ne _ _ (by decide)]
  have qg_10 : (va_up (va_up (va_up (va_up g 4 (upd (g 4) (n 5) (nI 2))) 5 (upd (g 5) (n 5) (nI i))) 6 (upd (g 6) (n 5) y)) (1000 + (n 5)) (rowD (prevD (fun i8 => g (1000 + i8)) (n 5)) (nI 2) (nI i) y)) 10 = g 10 := by rw [va_up_ne _ _ (by omega), va_up_ne _ _ (by decide), va_up_ne _ _ (by decide), va_up_ne _ _ (by decide)]
  have qg_11 : (va_up (va_up (va_up (va_up g 4 (upd (g 4) (n 5) (nI 2))) 5 (upd (g 5) (n 5) (nI i))) 6 (upd (g 6) (n 5) y)) (1000 + (n 5)) (rowD (prevD (fun i8 => g (1000 + i8)) (n 5)) (nI 2) (nI i) y)) 11 = g 11 := by rw [va_up_ne _ _ (by omega), va_up_ne _ _ (by decide), va_up_ne _ _ (by decide), va_up_ne _ _ (by decide)]
  have qg_12 : (va_up (va_up (va_up (va_up g 4 (upd (g 4) (n 5) (nI 2))) 5 (upd (g 5) (n 5) (nI i))) 6 (upd (g 6) (n 5) y)) (1000 + (n 5)) (rowD (prevD (fun i8 => g (1000 + i8)) (n 5)) (nI 2) (nI i) y)) 12 = g 12 := by rw [va_up_ne _ _ (by omega), va_up_ne _ _ (by decide), va_up_ne _ _ (by decide), va_up_ne _ _ (by decide)]
  have qg_13 : (va_up (va_up (va_up (va_up g 4 (upd (g 4) (n 5) (nI 2))) 5 (upd (g 5) (n 5) (nI i))) 6 (upd (g 6) (n 5) y)) (1000 + (n 5)) (rowD (prevD (fun i8 => g (1000 + i8)) (n 5)) (nI 2) (nI i) y)) 13 = g 13 := by rw [va_up_ne _ _ (by omega), va_up_ne _ _ (by decide), va_up_ne _ _ (by decide), va_up_ne _ _ (by decide)]
  have qz_0 : (va_up (va_up (va_up z_3 2 e1_11) 3 w1_10) 4 sv1_9) 0 = z_3 0 := by rw [va_up_ne _ _ (by decide), va_up_ne _ _ (by decide), va_up_ne _ _ (by decide)]
  have qz_1 : (va_up (va_up (va_up z_3 2 e1_11) 3 w1_10) 4 sv1_9) 1 = z_3 1 := by rw [va_up_ne _ _ (by decide), va_up_ne _ _ (by decide), va_up_ne _ _ (by decide)]
  have qz_2 : (va_up (va_up (va_up z_3 2 e1_11) 3 w1_10) 4 sv1_9) 2 = e1_11 := by rw [va_up_ne _ _ (by decide), va_up_ne _ _ (by decide), va_up_self]
  have qz_3 : (va_up (va_up (va_up z_3 2 e1_11) 3 w1_10) 4 sv1_9) 3 = w1_10 := by rw [va_up_ne _ _ (by decide), va_up_self]
  have qz_4 : (va_up (va_up (va_up z_3 2 e1_11) 3 w1_10) 4 sv1_9) 4 = sv1_9 := by rw [va_up_self]
  have hRz : RepX ca ad (va_up n 5 ((n 5) + 1)) (va_up (va_up (va_up (va_up g 4 (upd (g 4) (n 5) (nI 2))) 5 (upd (g 5) (n 5) (nI i))) 6 (upd (g 6) (n 5) y)) (1000 + (n 5)) (rowD (prevD (fun i8 => g (1000 + i8)) (n 5)) (nI 2) (nI i) y)) (va_up (va_up (va_up z_3 2 e1_11) 3 w1_10) 4 sv1_9) 44 tb f_7 := ⟨(by rw [qn_0, qn_1, qn_2, qn_3, qg_13]; exact c_0),
        c_1,
        (by rw [qz_0]; exact c_2),
        (by rw [qz_1]; exact c_3),
        c_4,
        c_5,
        (by rw [qn_4]; exact c_6),
        (by rw [qg_0]; exact c_7),
        (by rw [qg_1]; exact c_8),
        c_9,
        (by rw [qn_5]; exact c_90),
        c_91,
        (by rw [qz_2]; exact c_92),
        (by rw [qz_3]; exact c_93),
        c_94,
        (by rw [qz_4]; exact c_95),
        (by rw [qg_4]; exact c_96),
        (by rw [qg_5]; exact c_97),
        (by rw [qg_6]; exact c_98),
        c_99,
        (by rw [qg_2]; exact c_300),
        (by rw [qg_3]; exact c_301),
        (fun i9 hi9 => by rw [qg_7, qg_8, qg_9, qg_10, qg_11, qg_12]; rw [ef_7, va_up_ne _ _ (by omega), va_up_ne _ _ (by omega), va_up_ne _ _ (by omega), va_up_ne _ _ (by omega), va_up_ne _ _ (by omega), va_up_ne _ _ (by omega), va_up_ne _ _ (by omega), va_up_ne _ _ (by omega), va_up_ne _ _ (by omega)]; exact F_kf i9 hi9),
        (fun i9 hi9 => by rw [va_up_ne _ _ (by omega)]; rw [ef_7, va_up_ne _ _ (by omega), va_up_ne _ _ (by omega), va_up_ne _ _ (by omega), va_up_ne _ _ (by omega), va_up_ne _ _ (by omega), va_up_ne _ _ (by omega), va_up_ne _ _ (by omega), va_up_ne _ _ (by omega), va_up_ne _ _ (by omega)]; exact F_oc i9 hi9),
        (fun i9 hi9 => by rw [va_up_ne _ _ (by omega), va_up_ne _ _ (by omega), va_up_ne _ _ (by omega), va_up_ne _ _ (by omega)]; rw [ef_7, va_up_ne _ _ (by omega), va_up_ne _ _ (by omega), va_up_ne _ _ (by omega), va_up_ne _ _ (by omega), va_up_ne _ _ (by omega), va_up_ne _ _ (by omega), va_up_ne _ _ (by omega), va_up_ne _ _ (by omega), va_up_ne _ _ (by omega)]; exact F_va i9 hi9),
        (fun i9 hi9 => by rw [va_up_ne _ _ (by omega), va_up_ne _ _ (by omega), va_up_ne _ _ (by omega), va_up_ne _ _ (by omega)]; rw [ef_7, va_up_ne _ _ (by omega), va_up_ne _ _ (by omega), va_up_ne _ _ (by omega), va_up_ne _ _ (by omega), va_up_ne _ _ (by omega), va_up_ne _ _ (by omega), va_up_ne _ _ (by omega), va_up_ne _ _ (by omega), va_up_ne _ _ (by omega)]; exact F_lw i9 hi9),
        (fun i9 hi9 => by
        by_cases ei : i9 = n 5
        · rw [ei, va_up_self]; exact c_100_n_5
        · rw [va_up_ne _ _ (by omega), va_up_ne _ _ (by omega), va_up_ne _ _ (by omega), va_up_ne _ _ (by omega)]; rw [ef_7, va_up_ne _ _ (by omega), va_up_ne _ _ (by omega), va_up_ne _ _ (by omega), va_up_ne _ _ (by omega), va_up_ne _ _ (by omega), va_up_ne _ _ (by omega), va_up_ne _ _ (by omega), va_up_ne _ _ (by omega), va_up_ne _ _ (by omega)]; exact F_M i9 hi9), (by first | omega | assumption), hT⟩
  exact x_zret hx hb hr hlocks hw (by first | exact Or.inl rfl | exact Or.inr rfl) ⟨rfl, va_up (va_up (va_up z_3 2 e1_11) 3 w1_10) 4 sv1_9, 44, hRz, (fun y hy => by rw [ef_7, va_up_ne _ _ (by omega), va_up_ne _ _ (by omega), va_up_ne _ _ (by omega), va_up_ne _ _ (by omega), va_up_ne _ _ (by omega), va_up_ne _ _ (by omega), va_up_ne _ _ (by omega), va_up_ne _ _ (by omega), va_up_ne _ _ (by omega)]; exact hfr y hy)⟩ dX5_check_49

set_option maxHeartbeats 4000000 in
set_option maxRecDepth 100000 in
theorem k_X5_check_noF (l : Launch) (D : va_G) (ca : Nat → ClassId) (N : Nat) (ad : Nat → Nat) (B tR tK : Nat) (f : Nat → va_E) (dd : xD N ad B) (hN : 302 ≤ N) (n : Nat → Nat) (g : Nat → Nat → Int32) (z : Nat → Nat → Int32) (zn : Nat) (tb : Nat → Int32) (hR : RepX ca ad n g z zn tb f) (i : Nat) (y : Int32) (hi : i < 20) (hsz : ∀ i, i < 20 → n (10 + i) ≤ 200) (h5 : n 5 = 200) (hf : ¬ fitsX n g i i) : xMi l yX5_check wsX5_check rmX5_check [.ref (ad 0), .int (nI i), .int y] D ca N ad B tR tK f (fun r u => nI 0 = r ∧ ∃ (z1 : Nat → Nat → Int32) (zn1 : Nat), RepX ca ad n g z1 zn1 tb u ∧ ∀ y, 302 ≤ y → u y = f y) := by
  refine x_open (cc := cX5_check) (maxL := 5) (ret := (some .boolean)) (by decide) rfl (Nat.le_of_ble_eq_true rfl) ?_
  intro p e s m below meth c ls hx hb hml hown hts hr hlocks hnm hB hK hE hw hl
  have hown : s.vm.findClass RX5 = some m.cls := hown
  have hl : lv_has ls 5 [(0, .ref (ad 0)), (1, .int (nI i)), (2, .int y)] := hl
  obtain ⟨c_0, c_1, c_2, c_3, c_4, c_5, c_6, c_7, c_8, c_9, c_90, c_91, c_92, c_93, c_94, c_95, c_96, c_97, c_98, c_99, c_300, c_301, F_kf, F_oc, F_va, F_lw, F_M, hzn, hT⟩ := hR
  have hin_6 : ∀ w ∈ u_ws RX5 TX5 13, w ∈ wsX5_check := by decide +kernel
  have hf_49 := hts (.fieldLink RX5 49 "FixityRows" "files" "[LFixityRows$KeptFile;") (by decide +kernel)
  have hin_1 : ∀ w ∈ u_ws RX0 TX0 8, w ∈ wsX5_check := by decide +kernel
  have hf_57 := hts (.fieldLink RX5 57 "FixityRows" "rows" "LFixityRows$RowChain;") (by decide +kernel)
  have b_0 := c_0
  have b_1 := c_1
  have b_2 := c_2
  have b_3 := c_3
  have b_4 := c_4
  have b_5 := c_5
  have b_6 := c_6
  have b_7 := c_7
  have b_8 := c_8
  have b_9 := c_9
  have b_90 := c_90
  have b_91 := c_91
  have b_92 := c_92
  have b_93 := c_93
  have b_94 := c_94
  have b_95 := c_95
  have b_96 := c_96
  have b_97 := c_97
  have b_98 := c_98
  have b_99 := c_99
  have b_300 := c_300
  have b_301 := c_301
  refine lv_aload_n hx hb dX5_check_0 rfl (lv_at hl 0 rfl) ?_
  refine x_get (ci := 6) (C := RX5) (T := TX5) (n := 13) (ref := RX5) hx hb hts hin_6 hown hK hw 0 (by omega) c_0 rfl 6 (by decide) hf_49 (fun _ h => h) rfl dX5_check_1 ?_
  refine lv_iload_n hx hb dX5_check_4 rfl (lv_at hl 1 rfl) ?_
  refine x_aald (j := i) (a := ad (10 + 4 * i)) hx hb hK hw 9 3 (by omega) c_9 rfl rfl (by omega) (by decide) rfl dX5_check_5 ?_
  refine lv_astore_n (lv' := [(3, .ref (ad (10 + 4 * i))), (0, .ref (ad 0)), (1, .int (nI i)), (2, .int y)]) hx hb dX5_check_6 rfl hl (by decide) rfl (fun ls hl => ?_)
  refine lv_aload_n hx hb dX5_check_7 rfl (lv_at hl 1 rfl) ?_
  refine lv_aload_n hx hb dX5_check_8 rfl (lv_at hl 0 rfl) ?_
  have c_10_4_i : f (10 + 4 * i) = .inr (1, [.ref (ad (11 + 4 * i)), .ref (ad (13 + 4 * i)), .int (g 7 i), .int (g 8 i), .int (g 9 i), .int (g 10 i), .int (g 11 i), .int (g 12 i)]) := (F_kf i (by omega))
  refine x_getN (ci := 1) (C := RX0) (T := TX0) (n := 8) (ref := RX0) hx hb hts hin_1 hown hK hw (10 + 4 * i) (by omega) c_10_4_i rfl 0 (by decide) (hE.1 (103, "octets", "LFixityRows$Octets;") (by decide)) (fun _ h => h) rfl dX5_check_9 ?_
  refine lv_aload_n hx hb dX5_check_12 rfl (lv_at hl 0 rfl) ?_
  have hRk : RepX ca ad n g z zn tb f := ⟨c_0,
        c_1,
        c_2,
        c_3,
        c_4,
        c_5,
        c_6,
        c_7,
        c_8,
        c_9,
        c_90,
        c_91,
        c_92,
        c_93,
        c_94,
        c_95,
        c_96,
        c_97,
        c_98,
        c_99,
        c_300,
        c_301,
        (fun i9 hi9 => by exact F_kf i9 hi9),
        (fun i9 hi9 => by exact F_oc i9 hi9),
        (fun i9 hi9 => by exact F_va i9 hi9),
        (fun i9 hi9 => by exact F_lw i9 hi9),
        (fun i9 hi9 => by exact F_M i9 hi9), hzn, hT⟩
  have hfr : ∀ y, 302 ≤ y → f y = f y := (fun _ _ => rfl)
  refine x_Vi (q := 0) (As := [.ref (ad (11 + 4 * i)), .ref (ad (10 + 4 * i))]) (rest := []) ⟨hx, hb, hml, hown, hts⟩ (k_X5_matches_no l D ca N ad B tR tK f dd hN n g z zn tb hRk i i (by omega) (by omega) hsz hf) (cwV 2 hts gX5_check_X5_matches rfl rfl rfl (by decide +kernel) ⟨Nat.le_of_ble_eq_true rfl, Nat.le_of_ble_eq_true rfl⟩) hK hE hB hw (by omega) c_0 rfl rfl rfl rfl hl.1 (Nat.le_of_ble_eq_true rfl) ⟨Nat.zero_le _, Nat.zero_le _⟩ dX5_check_13 (fun r_2 f_1 H locs hp hw => ?_)
  obtain ⟨er, hp⟩ := hp
  rw [← er]
  obtain ⟨z_3, zn_4, hR2, hfr2⟩ := hp
  have hfr : ∀ y, 302 ≤ y → f_1 y = f y := fun y hy => (hfr2 y hy).trans (hfr y hy)
  obtain ⟨c_0, c_1, c_2, c_3, c_4, c_5, c_6, c_7, c_8, c_9, c_90, c_91, c_92, c_93, c_94, c_95, c_96, c_97, c_98, c_99, c_300, c_301, F_kf, F_oc, F_va, F_lw, F_M, hzn, hT⟩ := hR2
  refine lv_istore (lv' := [(4, .int (nI 0)), (3, .ref (ad (10 + 4 * i))), (0, .ref (ad 0)), (1, .int (nI i)), (2, .int y)]) hx hb dX5_check_16 hl (by decide) rfl (fun ls hl => ?_)
  refine lv_iload hx hb dX5_check_18 (lv_at hl 0 rfl) ?_
  refine lv_if_eq (tgt := 28) hx hb dX5_check_20 (by decide) (fun _ => ?_) (fun h => False.elim (h (by decide)))
  refine lv_aload_n hx hb dX5_check_28 rfl (lv_at hl 2 rfl) ?_
  refine x_get (ci := 6) (C := RX5) (T := TX5) (n := 13) (ref := RX5) hx hb hts hin_6 hown hK hw 0 (by omega) c_0 rfl 8 (by decide) hf_57 (fun _ h => h) rfl dX5_check_29 ?_
  refine lv_iload hx hb dX5_check_32 (lv_at hl 0 rfl) ?_
  refine lv_if_eq (tgt := 41) hx hb dX5_check_34 (by decide) (fun _ => ?_) (fun h => False.elim (h (by decide)))
  refine lv_iconst (v := nI 2) hx hb dX5_check_41 (by decide) ?_
  refine lv_iload_n hx hb dX5_check_42 rfl (lv_at hl 3 rfl) ?_
  refine lv_iload_n hx hb dX5_check_43 rfl (lv_at hl 4 rfl) ?_
  refine x_Vv (q := 90) (As := [.int (nI 2), .int (nI i), .int y]) (rest := []) ⟨hx, hb, hml, hown, hts⟩ (k_X3_append_full l D ca N ad B tR tK f_1 dd (n 5) (nI 2) (nI i) y c_90  (by omega) (by omega)) (cwV 3 hts gX5_check_X3_append rfl rfl rfl (by decide +kernel) ⟨Nat.le_of_ble_eq_true rfl, Nat.le_of_ble_eq_true rfl⟩) hK hE hB hw (by omega) c_90 rfl rfl rfl rfl hl.1 (Nat.le_of_ble_eq_true rfl) ⟨Nat.zero_le _, Nat.zero_le _⟩ dX5_check_44 (fun f_7 H locs hp hw => ?_)
  have eu := hp
  rw [← eu] at hw
  refine lv_iload hx hb dX5_check_47 (lv_at hl 0 rfl) ?_
  have hRz : RepX ca ad n g z_3 zn_4 tb f_1 := ⟨c_0,
        c_1,
        c_2,
        c_3,
        c_4,
        c_5,
        c_6,
        c_7,
        c_8,
        c_9,
        c_90,
        c_91,
        c_92,
        c_93,
        c_94,
        c_95,
        c_96,
        c_97,
        c_98,
        c_99,
        c_300,
        c_301,
        (fun i9 hi9 => by exact F_kf i9 hi9),
        (fun i9 hi9 => by exact F_oc i9 hi9),
        (fun i9 hi9 => by exact F_va i9 hi9),
        (fun i9 hi9 => by exact F_lw i9 hi9),
        (fun i9 hi9 => by exact F_M i9 hi9), hzn, hT⟩
  exact x_zret hx hb hr hlocks hw (by first | exact Or.inl rfl | exact Or.inr rfl) ⟨rfl, z_3, zn_4, hRz, (fun y hy => hfr y hy)⟩ dX5_check_49
