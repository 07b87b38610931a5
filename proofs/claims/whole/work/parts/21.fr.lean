/-- the class's cells hold the state: n its counts, g its rows of numbers; z, zn scratch; tb the table -/
def RepX (ca : Nat → ClassId) (ad : Nat → Nat) (n : Nat → Nat) (g : Nat → Nat → Int32) (z : Nat → Nat → Int32) (zn : Nat) (tb : Nat → Int32) (f : Nat → va_E) : Prop :=
  f 0 = .inr (6, [.int (nI (n 0)), .ref (ad 1), .ref (ad 4), .ref (ad 6), .ref (ad 8), .int (nI (n 1)), .ref (ad 9), .int (nI (n 2)), .ref (ad 90), .ref (ad 300), .ref (ad 301), .int (nI (n 3)), .int (g 13 0)]) ∧
  f 1 = .inr (2, [.ref (ad 2), .ref (ad 3)]) ∧
  f 2 = ai (ca 0) 8 (z 0) ∧
  f 3 = ai (ca 0) 64 (z 1) ∧
  f 4 = .inr (5, [.ref (ad 5)]) ∧
  f 5 = ai (ca 0) 256 tb ∧
  f 6 = .inr (3, [.ref (ad 7), .int (nI (n 4))]) ∧
  f 7 = ai (ca 0) 200 (g 0) ∧
  f 8 = ai (ca 0) 8 (g 1) ∧
  f 9 = aq (ca 3) 20 (fun i => some (ad (10 + 4 * i))) ∧
  f 90 = .inr (4, [.ref (ad 91), .ref (ad 94), .ref (ad 96), .ref (ad 97), .ref (ad 98), .ref (ad 99), .int (nI (n 5))]) ∧
  f 91 = .inr (2, [.ref (ad 92), .ref (ad 93)]) ∧
  f 92 = ai (ca 0) 8 (z 2) ∧
  f 93 = ai (ca 0) 64 (z 3) ∧
  f 94 = .inr (3, [.ref (ad 95), .int (nI zn)]) ∧
  f 95 = ai (ca 0) 200 (z 4) ∧
  f 96 = ai (ca 0) 200 (g 4) ∧
  f 97 = ai (ca 0) 200 (g 5) ∧
  f 98 = ai (ca 0) 200 (g 6) ∧
  f 99 = aq (ca 4) 200 (fun i => some (ad (100 + i))) ∧
  f 300 = ai (ca 0) 20 (g 2) ∧
  f 301 = ai (ca 2) 20 (g 3) ∧
  (∀ i, i < 20 → f (10 + 4 * i) = .inr (1, [.ref (ad (11 + 4 * i)), .ref (ad (13 + 4 * i)), .int (g 7 i), .int (g 8 i), .int (g 9 i), .int (g 10 i), .int (g 11 i), .int (g 12 i)])) ∧
  (∀ i, i < 20 → f (11 + 4 * i) = .inr (3, [.ref (ad (12 + 4 * i)), .int (nI (n (10 + i)))])) ∧
  (∀ i, i < 20 → f (12 + 4 * i) = ai (ca 0) 200 (g (100 + i))) ∧
  (∀ i, i < 20 → f (13 + 4 * i) = ai (ca 0) 8 (g (200 + i))) ∧
  (∀ i, i < 200 → f (100 + i) = ai (ca 0) 8 (g (1000 + i))) ∧
  zn ≤ 200 ∧
  ∀ j, j < 256 → tb j = crcN (nI j) 8

abbrev rmX5_isDay : Room := { frames := 0, cells := 0, slots := 0, locals := 0 }

set_option maxHeartbeats 4000000 in
set_option maxRecDepth 100000 in
theorem k_X5_isDay_yes (l : Launch) (D : va_G) (ca : Nat → ClassId) (N : Nat) (ad : Nat → Nat) (B tR tK : Nat) (f : Nat → va_E) (dd : xD N ad B) (j : Nat)   (hj : j ≤ 1000000) : xMi l yX5_isDay wsX5_isDay rmX5_isDay [.int (nI j)] D ca N ad B tR tK f (fun r u => nI 1 = r ∧ f = u) := by
  refine x_open (cc := cX5_isDay) (maxL := 1) (ret := (some .boolean)) (by decide) rfl (Nat.le_of_ble_eq_true rfl) ?_
  intro p e s m below meth c ls hx hb hml hown hts hr hlocks hnm hB hK hE hw hl
  have hown : s.vm.findClass RX5 = some m.cls := hown
  have hl : lv_has ls 1 [(0, .int (nI j))] := hl
  refine lv_iload_n hx hb dX5_isDay_0 rfl (lv_at hl 0 rfl) ?_
  refine n_iflt (tgt := 14) hx hb dX5_isDay_1 (by decide) (by omega) ?_
  refine lv_iload_n hx hb dX5_isDay_4 rfl (lv_at hl 0 rfl) ?_
  refine lv_ldc (v := nI 1000000) hx hb hown (hts (.constant RX5 201 (1000000)) (by decide +kernel)) dX5_isDay_5 ?_
  refine n_icgt (tgt := 14) hx hb dX5_isDay_7 (by decide) (by omega) (by omega) (fun c_7 => ?_) (fun c_7 => ?_)
  · omega
  · refine lv_iconst (v := nI 1) hx hb dX5_isDay_10 (by decide) ?_
    refine lv_goto (tgt := 15) hx hb dX5_isDay_11 (by decide) ?_
    exact x_zret hx hb hr hlocks hw (by first | exact Or.inl rfl | exact Or.inr rfl) ⟨rfl, rfl⟩ dX5_isDay_15

set_option maxHeartbeats 4000000 in
set_option maxRecDepth 100000 in
theorem k_X5_isDay_no (l : Launch) (D : va_G) (ca : Nat → ClassId) (N : Nat) (ad : Nat → Nat) (B tR tK : Nat) (f : Nat → va_E) (dd : xD N ad B) (x : Int32)   (ho : x < 0 ∨ nI 1000000 < x) : xMi l yX5_isDay wsX5_isDay rmX5_isDay [.int x] D ca N ad B tR tK f (fun r u => nI 0 = r ∧ f = u) := by
  refine x_open (cc := cX5_isDay) (maxL := 1) (ret := (some .boolean)) (by decide) rfl (Nat.le_of_ble_eq_true rfl) ?_
  intro p e s m below meth c ls hx hb hml hown hts hr hlocks hnm hB hK hE hw hl
  have hown : s.vm.findClass RX5 = some m.cls := hown
  have hl : lv_has ls 1 [(0, .int x)] := hl
  refine lv_iload_n hx hb dX5_isDay_0 rfl (lv_at hl 0 rfl) ?_
  refine lv_if_lt (tgt := 14) hx hb dX5_isDay_1 (by decide) (fun c_1 => ?_) (fun c_1 => ?_)
  · refine lv_iconst (v := nI 0) hx hb dX5_isDay_14 (by decide) ?_
    exact x_zret hx hb hr hlocks hw (by first | exact Or.inl rfl | exact Or.inr rfl) ⟨rfl, rfl⟩ dX5_isDay_15
  · refine lv_iload_n hx hb dX5_isDay_4 rfl (lv_at hl 0 rfl) ?_
    refine lv_ldc (v := nI 1000000) hx hb hown (hts (.constant RX5 201 (1000000)) (by decide +kernel)) dX5_isDay_5 ?_
    refine lv_icmp_gt (tgt := 14) hx hb dX5_isDay_7 (by decide) (fun c_7 => ?_) (fun c_7 => ?_)
    · refine lv_iconst (v := nI 0) hx hb dX5_isDay_14 (by decide) ?_
      exact x_zret hx hb hr hlocks hw (by first | exact Or.inl rfl | exact Or.inr rfl) ⟨rfl, rfl⟩ dX5_isDay_15
    · exact absurd ho (fun z => z.elim c_1 c_7)

abbrev rmX5_isFile : Room := { frames := 0, cells := 0, slots := 0, locals := 0 }

set_option maxHeartbeats 4000000 in
set_option maxRecDepth 100000 in
theorem k_X5_isFile_yes (l : Launch) (D : va_G) (ca : Nat → ClassId) (N : Nat) (ad : Nat → Nat) (B tR tK : Nat) (f : Nat → va_E) (dd : xD N ad B) (hN : 302 ≤ N) (n : Nat → Nat) (g : Nat → Nat → Int32) (z : Nat → Nat → Int32) (zn : Nat) (tb : Nat → Int32) (hR : RepX ca ad n g z zn tb f) (j : Nat) (hj : j < n 2) (h2 : n 2 ≤ 20) : xMi l yX5_isFile wsX5_isFile rmX5_isFile [.ref (ad 0), .int (nI j)] D ca N ad B tR tK f (fun r u => nI 1 = r ∧ f = u) := by
  refine x_open (cc := cX5_isFile) (maxL := 2) (ret := (some .boolean)) (by decide) rfl (Nat.le_of_ble_eq_true rfl) ?_
  intro p e s m below meth c ls hx hb hml hown hts hr hlocks hnm hB hK hE hw hl
  have hown : s.vm.findClass RX5 = some m.cls := hown
  have hl : lv_has ls 2 [(0, .ref (ad 0)), (1, .int (nI j))] := hl
  obtain ⟨c_0, c_1, c_2, c_3, c_4, c_5, c_6, c_7, c_8, c_9, c_90, c_91, c_92, c_93, c_94, c_95, c_96, c_97, c_98, c_99, c_300, c_301, F_kf, F_oc, F_va, F_lw, F_M, hzn, hT⟩ := hR
  have hin_6 : ∀ w ∈ u_ws RX5 TX5 13, w ∈ wsX5_isFile := by decide +kernel
  have hf_100 := hts (.fieldLink RX5 100 "FixityRows" "fileCount" "I") (by decide +kernel)
  have b_0 := c_0
  have b_1 := c_1
  have b_2 := c_2
  have b_3 := c_3
  have b_4 := c_4
  have b_5 := c_5
  have b_6 := c_6
  have b_7 := c_7
  have b_8 := c_8
  have b_9 := c_9
  have b_90 := c_90
  have b_91 := c_91
  have b_92 := c_92
  have b_93 := c_93
  have b_94 := c_94
  have b_95 := c_95
  have b_96 := c_96
  have b_97 := c_97
  have b_98 := c_98
  have b_99 := c_99
  have b_300 := c_300
  have b_301 := c_301
  refine lv_iload_n hx hb dX5_isFile_0 rfl (lv_at hl 1 rfl) ?_
  refine n_iflt (tgt := 16) hx hb dX5_isFile_1 (by decide) (by omega) ?_
  refine lv_iload_n hx hb dX5_isFile_4 rfl (lv_at hl 1 rfl) ?_
  refine lv_aload_n hx hb dX5_isFile_5 rfl (lv_at hl 0 rfl) ?_
  refine x_get (ci := 6) (C := RX5) (T := TX5) (n := 13) (ref := RX5) hx hb hts hin_6 hown hK hw 0 (by omega) c_0 rfl 7 (by decide) hf_100 (fun _ h => h) rfl dX5_isFile_6 ?_
  refine n_icge (tgt := 16) hx hb dX5_isFile_9 (by decide) (by omega) (by omega) (fun hc_9 => ?_) (fun hc_9 => ?_)
  · omega
  · refine lv_iconst (v := nI 1) hx hb dX5_isFile_12 (by decide) ?_
    refine lv_goto (tgt := 17) hx hb dX5_isFile_13 (by decide) ?_
    exact x_zret hx hb hr hlocks hw (by first | exact Or.inl rfl | exact Or.inr rfl) ⟨rfl, rfl⟩ dX5_isFile_17

set_option maxHeartbeats 4000000 in
set_option maxRecDepth 100000 in
theorem k_X5_isFile_no (l : Launch) (D : va_G) (ca : Nat → ClassId) (N : Nat) (ad : Nat → Nat) (B tR tK : Nat) (f : Nat → va_E) (dd : xD N ad B) (hN : 302 ≤ N) (n : Nat → Nat) (g : Nat → Nat → Int32) (z : Nat → Nat → Int32) (zn : Nat) (tb : Nat → Int32) (hR : RepX ca ad n g z zn tb f) (x : Int32) (ho : x < 0 ∨ nI (n 2) ≤ x) : xMi l yX5_isFile wsX5_isFile rmX5_isFile [.ref (ad 0), .int x] D ca N ad B tR tK f (fun r u => nI 0 = r ∧ f = u) := by
  refine x_open (cc := cX5_isFile) (maxL := 2) (ret := (some .boolean)) (by decide) rfl (Nat.le_of_ble_eq_true rfl) ?_
  intro p e s m below meth c ls hx hb hml hown hts hr hlocks hnm hB hK hE hw hl
  have hown : s.vm.findClass RX5 = some m.cls := hown
  have hl : lv_has ls 2 [(0, .ref (ad 0)), (1, .int x)] := hl
  obtain ⟨c_0, c_1, c_2, c_3, c_4, c_5, c_6, c_7, c_8, c_9, c_90, c_91, c_92, c_93, c_94, c_95, c_96, c_97, c_98, c_99, c_300, c_301, F_kf, F_oc, F_va, F_lw, F_M, hzn, hT⟩ := hR
  have hin_6 : ∀ w ∈ u_ws RX5 TX5 13, w ∈ wsX5_isFile := by decide +kernel
  have hf_100 := hts (.fieldLink RX5 100 "FixityRows" "fileCount" "I") (by decide +kernel)
  have b_0 := c_0
  have b_1 := c_1
  have b_2 := c_2
  have b_3 := c_3
  have b_4 := c_4
  have b_5 := c_5
  have b_6 := c_6
  have b_7 := c_7
  have b_8 := c_8
  have b_9 := c_9
  have b_90 := c_90
  have b_91 := c_91
  have b_92 := c_92
  have b_93 := c_93
  have b_94 := c_94
  have b_95 := c_95
  have b_96 := c_96
  have b_97 := c_97
  have b_98 := c_98
  have b_99 := c_99
  have b_300 := c_300
  have b_301 := c_301
  refine lv_iload_n hx hb dX5_isFile_0 rfl (lv_at hl 1 rfl) ?_
  refine lv_if_lt (tgt := 16) hx hb dX5_isFile_1 (by decide) (fun hc_1 => ?_) (fun hc_1 => ?_)
  · refine lv_iconst (v := nI 0) hx hb dX5_isFile_16 (by decide) ?_
    exact x_zret hx hb hr hlocks hw (by first | exact Or.inl rfl | exact Or.inr rfl) ⟨rfl, rfl⟩ dX5_isFile_17
  · refine lv_iload_n hx hb dX5_isFile_4 rfl (lv_at hl 1 rfl) ?_
    refine lv_aload_n hx hb dX5_isFile_5 rfl (lv_at hl 0 rfl) ?_
    refine x_get (ci := 6) (C := RX5) (T := TX5) (n := 13) (ref := RX5) hx hb hts hin_6 hown hK hw 0 (by omega) c_0 rfl 7 (by decide) hf_100 (fun _ h => h) rfl dX5_isFile_6 ?_
    refine lv_icmp_ge (tgt := 16) hx hb dX5_isFile_9 (by decide) (fun hc_9 => ?_) (fun hc_9 => ?_)
    · refine lv_iconst (v := nI 0) hx hb dX5_isFile_16 (by decide) ?_
      exact x_zret hx hb hr hlocks hw (by first | exact Or.inl rfl | exact Or.inr rfl) ⟨rfl, rfl⟩ dX5_isFile_17
    · exact absurd ho (fun z => z.elim hc_1 hc_9)

abbrev rmX5_octet : Room := { frames := 1, cells := 0, slots := 0, locals := 21 }

set_option maxHeartbeats 4000000 in
set_option maxRecDepth 100000 in
theorem k_X5_octet_in (l : Launch) (D : va_G) (ca : Nat → ClassId) (N : Nat) (ad : Nat → Nat) (B tR tK : Nat) (f : Nat → va_E) (dd : xD N ad B) (hN : 302 ≤ N) (n : Nat → Nat) (g : Nat → Nat → Int32) (z : Nat → Nat → Int32) (zn : Nat) (tb : Nat → Int32) (hR : RepX ca ad n g z zn tb f) (x : Int32) (h4 : n 4 < 200) : xMv l yX5_octet wsX5_octet rmX5_octet [.ref (ad 0), .int x] D ca N ad B tR tK f (fun u => ∃ (z1 : Nat → Nat → Int32) (zn1 : Nat), RepX ca ad (va_up n 4 ((n 4) + 1)) (va_up g 0 (upd (g 0) (n 4) (x &&& nI 255))) z1 zn1 tb u ∧ ∀ y, 302 ≤ y → u y = f y) := by
  refine x_open (cc := cX5_octet) (maxL := 2) (ret := none) (by decide) rfl (Nat.le_of_ble_eq_true rfl) ?_
  intro p e s m below meth c ls hx hb hml hown hts hr hlocks hnm hB hK hE hw hl
  have hown : s.vm.findClass RX5 = some m.cls := hown
  have hl : lv_has ls 2 [(0, .ref (ad 0)), (1, .int x)] := hl
  obtain ⟨c_0, c_1, c_2, c_3, c_4, c_5, c_6, c_7, c_8, c_9, c_90, c_91, c_92, c_93, c_94, c_95, c_96, c_97, c_98, c_99, c_300, c_301, F_kf, F_oc, F_va, F_lw, F_M, hzn, hT⟩ := hR
  have hin_6 : ∀ w ∈ u_ws RX5 TX5 13, w ∈ wsX5_octet := by decide +kernel
  have hf_39 := hts (.fieldLink RX5 39 "FixityRows" "collected" "LFixityRows$Octets;") (by decide +kernel)
  have b_0 := c_0
  have b_1 := c_1
  have b_2 := c_2
  have b_3 := c_3
  have b_4 := c_4
  have b_5 := c_5
  have b_6 := c_6
  have b_7 := c_7
  have b_8 := c_8
  have b_9 := c_9
  have b_90 := c_90
  have b_91 := c_91
  have b_92 := c_92
  have b_93 := c_93
  have b_94 := c_94
  have b_95 := c_95
  have b_96 := c_96
  have b_97 := c_97
  have b_98 := c_98
  have b_99 := c_99
  have b_300 := c_300
  have b_301 := c_301
  refine lv_aload_n hx hb dX5_octet_0 rfl (lv_at hl 0 rfl) ?_
  refine x_get (ci := 6) (C := RX5) (T := TX5) (n := 13) (ref := RX5) hx hb hts hin_6 hown hK hw 0 (by omega) c_0 rfl 3 (by decide) hf_39 (fun _ h => h) rfl dX5_octet_1 ?_
  refine lv_iload_n hx hb dX5_octet_4 rfl (lv_at hl 1 rfl) ?_
  refine x_Vv (q := 6) (As := [.int x]) (rest := []) ⟨hx, hb, hml, hown, hts⟩ (k_X2_push_in l D ca N ad B tR tK f dd 6 7 (n 4) x (g 0) (by omega) c_6 (by omega) c_7  (by omega)) (cwV 1 hts gX5_octet_X2_push rfl rfl rfl (by decide +kernel) ⟨Nat.le_of_ble_eq_true rfl, Nat.le_of_ble_eq_true rfl⟩) hK hE hB hw (by omega) c_6 rfl rfl rfl rfl hl.1 (Nat.le_of_ble_eq_true rfl) ⟨Nat.zero_le _, Nat.zero_le _⟩ dX5_octet_5 (fun f_1 H locs hp hw => ?_)
  have eu := hp
  have ef_1 : f_1 = va_up (va_up f 7 (ai (ca 0) 200 (upd (g 0) (n 4) (x &&& nI 255)))) 6 (.inr (3, [.ref (ad 7), .int (nI ((n 4) + 1))])) := eu
  have c_7 : f_1 7 = ai (ca 0) 200 (upd (g 0) (n 4) (x &&& nI 255)) := by rw [ef_1, va_up_ne _ _ (by decide), va_up_self]
  have c_6 : f_1 6 = .inr (3, [.ref (ad 7), .int (nI ((n 4) + 1))]) := by rw [ef_1, va_up_self]
  have c_0 : f_1 0 = .inr (6, [.int (nI (n 0)), .ref (ad 1), .ref (ad 4), .ref (ad 6), .ref (ad 8), .int (nI (n 1)), .ref (ad 9), .int (nI (n 2)), .ref (ad 90), .ref (ad 300), .ref (ad 301), .int (nI (n 3)), .int (g 13 0)]) := by rw [ef_1, va_up_ne _ _ (by decide), va_up_ne _ _ (by decide)]; exact c_0
  have c_1 : f_1 1 = .inr (2, [.ref (ad 2), .ref (ad 3)]) := by rw [ef_1, va_up_ne _ _ (by decide), va_up_ne _ _ (by decide)]; exact c_1
  have c_2 : f_1 2 = ai (ca 0) 8 (z 0) := by rw [ef_1, va_up_ne _ _ (by decide), va_up_ne _ _ (by decide)]; exact c_2
  have c_3 : f_1 3 = ai (ca 0) 64 (z 1) := by rw [ef_1, va_up_ne _ _ (by decide), va_up_ne _ _ (by decide)]; exact c_3
  have c_4 : f_1 4 = .inr (5, [.ref (ad 5)]) := by rw [ef_1, va_up_ne _ _ (by decide), va_up_ne _ _ (by decide)]; exact c_4
  have c_5 : f_1 5 = ai (ca 0) 256 tb := by rw [ef_1, va_up_ne _ _ (by decide), va_up_ne _ _ (by decide)]; exact c_5
  have c_8 : f_1 8 = ai (ca 0) 8 (g 1) := by rw [ef_1, va_up_ne _ _ (by decide), va_up_ne _ _ (by decide)]; exact c_8
  have c_9 : f_1 9 = aq (ca 3) 20 (fun i => some (ad (10 + 4 * i))) := by rw [ef_1, va_up_ne _ _ (by decide), va_up_ne _ _ (by decide)]; exact c_9
  have c_90 : f_1 90 = .inr (4, [.ref (ad 91), .ref (ad 94), .ref (ad 96), .ref (ad 97), .ref (ad 98), .ref (ad 99), .int (nI (n 5))]) := by rw [ef_1, va_up_ne _ _ (by decide), va_up_ne _ _ (by decide)]; exact c_90
  have c_91 : f_1 91 = .inr (2, [.ref (ad 92), .ref (ad 93)]) := by rw [ef_1, va_up_ne _ _ (by decide), va_up_ne _ _ (by decide)]; exact c_91
  have c_92 : f_1 92 = ai (ca 0) 8 (z 2) := by rw [ef_1, va_up_ne _ _ (by decide), va_up_ne _ _ (by decide)]; exact c_92
  have c_93 : f_1 93 = ai (ca 0) 64 (z 3) := by rw [ef_1, va_up_ne _ _ (by decide), va_up_ne _ _ (by decide)]; exact c_93
  have c_94 : f_1 94 = .inr (3, [.ref (ad 95), .int (nI zn)]) := by rw [ef_1, va_up_ne _ _ (by decide), va_up_ne _ _ (by decide)]; exact c_94
  have c_95 : f_1 95 = ai (ca 0) 200 (z 4) := by rw [ef_1, va_up_ne _ _ (by decide), va_up_ne _ _ (by decide)]; exact c_95
  have c_96 : f_1 96 = ai (ca 0) 200 (g 4) := by rw [ef_1, va_up_ne _ _ (by decide), va_up_ne _ _ (by decide)]; exact c_96
  have c_97 : f_1 97 = ai (ca 0) 200 (g 5) := by rw [ef_1, va_up_ne _ _ (by decide), va_up_ne _ _ (by decide)]; exact c_97
  have c_98 : f_1 98 = ai (ca 0) 200 (g 6) := by rw [ef_1, va_up_ne _ _ (by decide), va_up_ne _ _ (by decide)]; exact c_98
  have c_99 : f_1 99 = aq (ca 4) 200 (fun i => some (ad (100 + i))) := by rw [ef_1, va_up_ne _ _ (by decide), va_up_ne _ _ (by decide)]; exact c_99
  have c_300 : f_1 300 = ai (ca 0) 20 (g 2) := by rw [ef_1, va_up_ne _ _ (by decide), va_up_ne _ _ (by decide)]; exact c_300
  have c_301 : f_1 301 = ai (ca 2) 20 (g 3) := by rw [ef_1, va_up_ne _ _ (by decide), va_up_ne _ _ (by decide)]; exact c_301
  have qn_0 : (va_up n 4 ((n 4) + 1)) 0 = n 0 := by rw [va_up_ne _ _ (by decide)]
  have qn_1 : (va_up n 4 ((n 4) + 1)) 1 = n 1 := by rw [va_up_ne _ _ (by decide)]
  have qn_2 : (va_up n 4 ((n 4) + 1)) 2 = n 2 := by rw [va_up_ne _ _ (by decide)]
  have qn_3 : (va_up n 4 ((n 4) + 1)) 3 = n 3 := by rw [va_up_ne _ _ (by decide)]
  have qn_4 : (va_up n 4 ((n 4) + 1)) 4 = (n 4) + 1 := by rw [va_up_self]
  have qn_5 : (va_up n 4 ((n 4) + 1)) 5 = n 5 := by rw [va_up_ne _ _ (by decide)]
  have qg_0 : (va_up g 0 (upd (g 0) (n 4) (x &&& nI 255))) 0 = upd (g 0) (n 4) (x &&& nI 255) := by rw [va_up_self]
  have qg_1 : (va_up g 0 (upd (g 0) (n 4) (x &&& nI 255))) 1 = g 1 := by rw [va_up_ne _ _ (by decide)]
  have qg_2 : (va_up g 0 (upd (g 0) (n 4) (x &&& nI 255))) 2 = g 2 := by rw [va_up_ne _ _ (by decide)]
  have qg_3 : (va_up g 0 (upd (g 0) (n 4) (x &&& nI 255))) 3 = g 3 := by rw [va_up_ne _ _ (by decide)]
  have qg_4 : (va_up g 0 (upd (g 0) (n 4) (x &&& nI 255))) 4 = g 4 := by rw [va_up_ne _ _ (by decide)]
  have qg_5 : (va_up g 0 (upd (g 0) (n 4) (x &&& nI 255))) 5 = g 5 := by rw [va_up_ne _ _ (by decide)]
  have qg_6 : (va_up g 0 (upd (g 0) (n 4) (x &&& nI 255))) 6 = g 6 := by rw [va_up_ne _ _ (by decide)]
  have qg_7 : (va_up g 0 (upd (g 0) (n 4) (x &&& nI 255))) 7 = g 7 := by rw [va_up_ne _ _ (by decide)]
  have qg_8 : (va_up g 0 (upd (g 0) (n 4) (x &&& nI 255))) 8 = g 8 := by rw [va_up_ne _ _ (by decide)]
  have qg_9 : (va_up g 0 (upd (g 0) (n 4) (x &&& nI 255))) 9 = g 9 := by rw [va_up_ne _ _ (by decide)]
  have qg_10 : (va_up g 0 (upd (g 0) (n 4) (x &&& nI 255))) 10 = g 10 := by rw [va_up_ne _ _ (by decide)]
  have qg_11 : (va_up g 0 (upd (g 0) (n 4) (x &&& nI 255))) 11 = g 11 := by rw [va_up_ne _ _ (by decide)]
  have qg_12 : (va_up g 0 (upd (g 0) (n 4) (x &&& nI 255))) 12 = g 12 := by rw [va_up_ne _ _ (by decide)]
  have qg_13 : (va_up g 0 (upd (g 0) (n 4) (x &&& nI 255))) 13 = g 13 := by rw [va_up_ne _ _ (by decide)]
  have hRz : RepX ca ad (va_up n 4 ((n 4) + 1)) (va_up g 0 (upd (g 0) (n 4) (x &&& nI 255))) z zn tb f_1 := ⟨(by rw [qn_0, qn_1, qn_2, qn_3, qg_13]; exact c_0),
        c_1,
        c_2,
        c_3,
        c_4,
        c_5,
        (by rw [qn_4]; exact c_6),
        (by rw [qg_0]; exact c_7),
        (by rw [qg_1]; exact c_8),
        c_9,
        (by rw [qn_5]; exact c_90),
        c_91,
        c_92,
        c_93,
        c_94,
        c_95,
        (by rw [qg_4]; exact c_96),
        (by rw [qg_5]; exact c_97),
        (by rw [qg_6]; exact c_98),
        c_99,
        (by rw [qg_2]; exact c_300),
        (by rw [qg_3]; exact c_301),
        (fun i9 hi9 => by rw [qg_7, qg_8, qg_9, qg_10, qg_11, qg_12]; rw [ef_1, va_up_ne _ _ (by omega), va_up_ne _ _ (by omega)]; exact F_kf i9 hi9),
        (fun i9 hi9 => by rw [va_up_ne _ _ (by omega)]; rw [ef_1, va_up_ne _ _ (by omega), va_up_ne _ _ (by omega)]; exact F_oc i9 hi9),
        (fun i9 hi9 => by rw [va_up_ne _ _ (by omega)]; rw [ef_1, va_up_ne _ _ (by omega), va_up_ne _ _ (by omega)]; exact F_va i9 hi9),
        (fun i9 hi9 => by rw [va_up_ne _ _ (by omega)]; rw [ef_1, va_up_ne _ _ (by omega), va_up_ne _ _ (by omega)]; exact F_lw i9 hi9),
        (fun i9 hi9 => by rw [va_up_ne _ _ (by omega)]; rw [ef_1, va_up_ne _ _ (by omega), va_up_ne _ _ (by omega)]; exact F_M i9 hi9), hzn, hT⟩
  exact x_vret hx hb hr hlocks hw ⟨z, zn, hRz, (fun y hy => by rw [ef_1, va_up_ne _ _ (by omega), va_up_ne _ _ (by omega)])⟩ dX5_octet_8

set_option maxHeartbeats 4000000 in
set_option maxRecDepth 100000 in
theorem k_X5_octet_full (l : Launch) (D : va_G) (ca : Nat → ClassId) (N : Nat) (ad : Nat → Nat) (B tR tK : Nat) (f : Nat → va_E) (dd : xD N ad B) (hN : 302 ≤ N) (n : Nat → Nat) (g : Nat → Nat → Int32) (z : Nat → Nat → Int32) (zn : Nat) (tb : Nat → Int32) (hR : RepX ca ad n g z zn tb f) (x : Int32) (h4 : n 4 = 200) : xMv l yX5_octet wsX5_octet rmX5_octet [.ref (ad 0), .int x] D ca N ad B tR tK f (fun u => ∃ (z1 : Nat → Nat → Int32) (zn1 : Nat), RepX ca ad n g z1 zn1 tb u ∧ ∀ y, 302 ≤ y → u y = f y) := by
  refine x_open (cc := cX5_octet) (maxL := 2) (ret := none) (by decide) rfl (Nat.le_of_ble_eq_true rfl) ?_
  intro p e s m below meth c ls hx hb hml hown hts hr hlocks hnm hB hK hE hw hl
  have hown : s.vm.findClass RX5 = some m.cls := hown
  have hl : lv_has ls 2 [(0, .ref (ad 0)), (1, .int x)] := hl
  obtain ⟨c_0, c_1, c_2, c_3, c_4, c_5, c_6, c_7, c_8, c_9, c_90, c_91, c_92, c_93, c_94, c_95, c_96, c_97, c_98, c_99, c_300, c_301, F_kf, F_oc, F_va, F_lw, F_M, hzn, hT⟩ := hR
  have hin_6 : ∀ w ∈ u_ws RX5 TX5 13, w ∈ wsX5_octet := by decide +kernel
  have hf_39 := hts (.fieldLink RX5 39 "FixityRows" "collected" "LFixityRows$Octets;") (by decide +kernel)
  have b_0 := c_0
  have b_1 := c_1
  have b_2 := c_2
  have b_3 := c_3
  have b_4 := c_4
  have b_5 := c_5
  have b_6 := c_6
  have b_7 := c_7
  have b_8 := c_8
  have b_9 := c_9
  have b_90 := c_90
  have b_91 := c_91
  have b_92 := c_92
  have b_93 := c_93
  have b_94 := c_94
  have b_95 := c_95
  have b_96 := c_96
  have b_97 := c_97
  have b_98 := c_98
  have b_99 := c_99
  have b_300 := c_300
  have b_301 := c_301
  refine lv_aload_n hx hb dX5_octet_0 rfl (lv_at hl 0 rfl) ?_
  refine x_get (ci := 6) (C := RX5) (T := TX5) (n := 13) (ref := RX5) hx hb hts hin_6 hown hK hw 0 (by omega) c_0 rfl 3 (by decide) hf_39 (fun _ h => h) rfl dX5_octet_1 ?_
  refine lv_iload_n hx hb dX5_octet_4 rfl (lv_at hl 1 rfl) ?_
  refine x_Vv (q := 6) (As := [.int x]) (rest := []) ⟨hx, hb, hml, hown, hts⟩ (k_X2_push_full l D ca N ad B tR tK f dd 6 7 (n 4) x (by omega) c_6  (by omega) (by omega)) (cwV 1 hts gX5_octet_X2_push rfl rfl rfl (by decide +kernel) ⟨Nat.le_of_ble_eq_true rfl, Nat.le_of_ble_eq_true rfl⟩) hK hE hB hw (by omega) c_6 rfl rfl rfl rfl hl.1 (Nat.le_of_ble_eq_true rfl) ⟨Nat.zero_le _, Nat.zero_le _⟩ dX5_octet_5 (fun f_1 H locs hp hw => ?_)
  have eu := hp
  rw [← eu] at hw
  have hRz : RepX ca ad n g z zn tb f := ⟨c_0,
        c_1,
        c_2,
        c_3,
        c_4,
        c_5,
        c_6,
        c_7,
        c_8,
        c_9,
        c_90,
        c_91,
        c_92,
        c_93,
        c_94,
        c_95,
        c_96,
        c_97,
        c_98,
        c_99,
        c_300,
        c_301,
        (fun i9 hi9 => by exact F_kf i9 hi9),
        (fun i9 hi9 => by exact F_oc i9 hi9),
        (fun i9 hi9 => by exact F_va i9 hi9),
        (fun i9 hi9 => by exact F_lw i9 hi9),
        (fun i9 hi9 => by exact F_M i9 hi9), hzn, hT⟩
  exact x_vret hx hb hr hlocks hw ⟨z, zn, hRz, (fun _ _ => rfl)⟩ dX5_octet_8
