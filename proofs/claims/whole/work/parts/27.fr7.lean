abbrev rmX5_mend : Room := { frames := 5, cells := 0, slots := 0, locals := 122 }

set_option maxHeartbeats 4000000 in
set_option maxRecDepth 100000 in
theorem k_X5_mend_nofile (l : Launch) (D : va_G) (ca : Nat → ClassId) (N : Nat) (ad : Nat → Nat) (B tR tK : Nat) (f : Nat → va_E) (dd : xD N ad B) (hN : 302 ≤ N) (n : Nat → Nat) (g : Nat → Nat → Int32) (z : Nat → Nat → Int32) (zn : Nat) (tb : Nat → Int32) (hR : RepX ca ad n g z zn tb f) (x : Int32) (y : Int32) (ho : x < 0 ∨ nI (n 2) ≤ x) : xMi l yX5_mend wsX5_mend rmX5_mend [.ref (ad 0), .int x, .int y] D ca N ad B tR tK f (fun r u => (-1) = r ∧ ∃ (z1 : Nat → Nat → Int32) (zn1 : Nat), RepX ca ad n g z1 zn1 tb u ∧ ∀ y, 302 ≤ y → u y = f y) := by
  refine x_open (cc := cX5_mend) (maxL := 5) (ret := (some .int)) (by decide) rfl (Nat.le_of_ble_eq_true rfl) ?_
  intro p e s m below meth c ls hx hb hml hown hts hr hlocks hnm hB hK hE hw hl
  have hown : s.vm.findClass RX5 = some m.cls := hown
  have hl : lv_has ls 5 [(0, .ref (ad 0)), (1, .int x), (2, .int y)] := hl
  obtain ⟨c_0, c_1, c_2, c_3, c_4, c_5, c_6, c_7, c_8, c_9, c_90, c_91, c_92, c_93, c_94, c_95, c_96, c_97, c_98, c_99, c_300, c_301, F_kf, F_oc, F_va, F_lw, F_M, hzn, hT⟩ := hR
  have b_0 := c_0
  have b_1 := c_1
  have b_2 := c_2
  have b_3 := c_3
  have b_4 := c_4
  have b_5 := c_5
  have b_6 := c_6
  have b_7 := c_7
  have b_8 := c_8
  have b_9 := c_9
  have b_90 := c_90
  have b_91 := c_91
  have b_92 := c_92
  have b_93 := c_93
  have b_94 := c_94
  have b_95 := c_95
  have b_96 := c_96
  have b_97 := c_97
  have b_98 := c_98
  have b_99 := c_99
  have b_300 := c_300
  have b_301 := c_301
  refine lv_aload_n hx hb dX5_mend_0 rfl (lv_at hl 0 rfl) ?_
  refine lv_iload_n hx hb dX5_mend_1 rfl (lv_at hl 1 rfl) ?_
  have hRk : RepX ca ad n g z zn tb f := ⟨c_0,
        c_1,
        c_2,
        c_3,
        c_4,
        c_5,
        c_6,
        c_7,
        c_8,
        c_9,
        c_90,
        c_91,
        c_92,
        c_93,
        c_94,
        c_95,
        c_96,
        c_97,
        c_98,
        c_99,
        c_300,
        c_301,
        (fun i9 hi9 => by exact F_kf i9 hi9),
        (fun i9 hi9 => by exact F_oc i9 hi9),
        (fun i9 hi9 => by exact F_va i9 hi9),
        (fun i9 hi9 => by exact F_lw i9 hi9),
        (fun i9 hi9 => by exact F_M i9 hi9), hzn, hT⟩
  have hfr : ∀ y, 302 ≤ y → f y = f y := (fun _ _ => rfl)
  refine x_Vi (q := 0) (As := [.int x]) (rest := []) ⟨hx, hb, hml, hown, hts⟩ (k_X5_isFile_no l D ca N ad B tR tK f dd hN n g z zn tb hRk x ho) (cwV 1 hts gX5_mend_X5_isFile rfl rfl rfl (by decide +kernel) ⟨Nat.le_of_ble_eq_true rfl, Nat.le_of_ble_eq_true rfl⟩) hK hE hB hw (by omega) c_0 rfl rfl rfl rfl hl.1 (Nat.le_of_ble_eq_true rfl) ⟨Nat.zero_le _, Nat.zero_le _⟩ dX5_mend_2 (fun r_2 f_1 H locs hp hw => ?_)
  obtain ⟨er, hp⟩ := hp
  rw [← er]
  rw [← hp] at hw
  refine lv_if_ne (tgt := 10) hx hb dX5_mend_5 (by decide) (fun h => False.elim (h (by decide))) (fun _ => ?_)
  refine lv_iconst (v := (-1)) hx hb dX5_mend_8 (by decide) ?_
  have hRz : RepX ca ad n g z zn tb f := ⟨c_0,
        c_1,
        c_2,
        c_3,
        c_4,
        c_5,
        c_6,
        c_7,
        c_8,
        c_9,
        c_90,
        c_91,
        c_92,
        c_93,
        c_94,
        c_95,
        c_96,
        c_97,
        c_98,
        c_99,
        c_300,
        c_301,
        (fun i9 hi9 => by exact F_kf i9 hi9),
        (fun i9 hi9 => by exact F_oc i9 hi9),
        (fun i9 hi9 => by exact F_va i9 hi9),
        (fun i9 hi9 => by exact F_lw i9 hi9),
        (fun i9 hi9 => by exact F_M i9 hi9), hzn, hT⟩
  exact x_iret hx hb hr hlocks hw ⟨rfl, z, zn, hRz, (fun _ _ => rfl)⟩ dX5_mend_9

set_option maxHeartbeats 4000000 in
set_option maxRecDepth 100000 in
theorem k_X5_mend_day (l : Launch) (D : va_G) (ca : Nat → ClassId) (N : Nat) (ad : Nat → Nat) (B tR tK : Nat) (f : Nat → va_E) (dd : xD N ad B) (hN : 302 ≤ N) (n : Nat → Nat) (g : Nat → Nat → Int32) (z : Nat → Nat → Int32) (zn : Nat) (tb : Nat → Int32) (hR : RepX ca ad n g z zn tb f) (i : Nat) (y : Int32) (h2 : n 2 ≤ 20) (hi : i < n 2) (ho : y < 0 ∨ nI 1000000 < y) : xMi l yX5_mend wsX5_mend rmX5_mend [.ref (ad 0), .int (nI i), .int y] D ca N ad B tR tK f (fun r u => (-2) = r ∧ ∃ (z1 : Nat → Nat → Int32) (zn1 : Nat), RepX ca ad n g z1 zn1 tb u ∧ ∀ y, 302 ≤ y → u y = f y) := by
  refine x_open (cc := cX5_mend) (maxL := 5) (ret := (some .int)) (by decide) rfl (Nat.le_of_ble_eq_true rfl) ?_
  intro p e s m below meth c ls hx hb hml hown hts hr hlocks hnm hB hK hE hw hl
  have hown : s.vm.findClass RX5 = some m.cls := hown
  have hl : lv_has ls 5 [(0, .ref (ad 0)), (1, .int (nI i)), (2, .int y)] := hl
  obtain ⟨c_0, c_1, c_2, c_3, c_4, c_5, c_6, c_7, c_8, c_9, c_90, c_91, c_92, c_93, c_94, c_95, c_96, c_97, c_98, c_99, c_300, c_301, F_kf, F_oc, F_va, F_lw, F_M, hzn, hT⟩ := hR
  have b_0 := c_0
  have b_1 := c_1
  have b_2 := c_2
  have b_3 := c_3
  have b_4 := c_4
  have b_5 := c_5
  have b_6 := c_6
  have b_7 := c_7
  have b_8 := c_8
  have b_9 := c_9
  have b_90 := c_90
  have b_91 := c_91
  have b_92 := c_92
  have b_93 := c_93
  have b_94 := c_94
  have b_95 := c_95
  have b_96 := c_96
  have b_97 := c_97
  have b_98 := c_98
  have b_99 := c_99
  have b_300 := c_300
  have b_301 := c_301
  refine lv_aload_n hx hb dX5_mend_0 rfl (lv_at hl 0 rfl) ?_
  refine lv_iload_n hx hb dX5_mend_1 rfl (lv_at hl 1 rfl) ?_
  have hRk : RepX ca ad n g z zn tb f := ⟨c_0,
        c_1,
        c_2,
        c_3,
        c_4,
        c_5,
        c_6,
        c_7,
        c_8,
        c_9,
        c_90,
        c_91,
        c_92,
        c_93,
        c_94,
        c_95,
        c_96,
        c_97,
        c_98,
        c_99,
        c_300,
        c_301,
        (fun i9 hi9 => by exact F_kf i9 hi9),
        (fun i9 hi9 => by exact F_oc i9 hi9),
        (fun i9 hi9 => by exact F_va i9 hi9),
        (fun i9 hi9 => by exact F_lw i9 hi9),
        (fun i9 hi9 => by exact F_M i9 hi9), hzn, hT⟩
  have hfr : ∀ y, 302 ≤ y → f y = f y := (fun _ _ => rfl)
  refine x_Vi (q := 0) (As := [.int (nI i)]) (rest := []) ⟨hx, hb, hml, hown, hts⟩ (k_X5_isFile_yes l D ca N ad B tR tK f dd hN n g z zn tb hRk i (by omega) (by omega)) (cwV 1 hts gX5_mend_X5_isFile rfl rfl rfl (by decide +kernel) ⟨Nat.le_of_ble_eq_true rfl, Nat.le_of_ble_eq_true rfl⟩) hK hE hB hw (by omega) c_0 rfl rfl rfl rfl hl.1 (Nat.le_of_ble_eq_true rfl) ⟨Nat.zero_le _, Nat.zero_le _⟩ dX5_mend_2 (fun r_2 f_1 H locs hp hw => ?_)
  obtain ⟨er, hp⟩ := hp
  rw [← er]
  rw [← hp] at hw
  refine lv_if_ne (tgt := 10) hx hb dX5_mend_5 (by decide) (fun _ => ?_) (fun h => absurd h (by decide))
  refine lv_iload_n hx hb dX5_mend_10 rfl (lv_at hl 2 rfl) ?_
  refine x_Si (As := [.int y]) (rest := []) ⟨hx, hb, hml, hown, hts⟩ (k_X5_isDay_no l D ca N ad B tR tK f dd y   ho) (va_cwS 1 hts gX5_mend_X5_isDay rfl rfl rfl (by decide +kernel) ⟨Nat.le_of_ble_eq_true rfl, Nat.le_of_ble_eq_true rfl⟩) hK hE hB hw rfl rfl hl.1 (Nat.le_of_ble_eq_true rfl) ⟨Nat.zero_le _, Nat.zero_le _⟩ dX5_mend_11 (fun r_4 f_3 H locs hp hw => ?_)
  obtain ⟨er, eu⟩ := hp
  rw [← er]
  rw [← eu] at hw
  refine lv_if_ne (tgt := 20) hx hb dX5_mend_14 (by decide) (fun h => False.elim (h (by decide))) (fun _ => ?_)
  refine lv_bipush (v := (-2)) hx hb dX5_mend_17 (by decide) ?_
  have hRz : RepX ca ad n g z zn tb f := ⟨c_0,
        c_1,
        c_2,
        c_3,
        c_4,
        c_5,
        c_6,
        c_7,
        c_8,
        c_9,
        c_90,
        c_91,
        c_92,
        c_93,
        c_94,
        c_95,
        c_96,
        c_97,
        c_98,
        c_99,
        c_300,
        c_301,
        (fun i9 hi9 => by exact F_kf i9 hi9),
        (fun i9 hi9 => by exact F_oc i9 hi9),
        (fun i9 hi9 => by exact F_va i9 hi9),
        (fun i9 hi9 => by exact F_lw i9 hi9),
        (fun i9 hi9 => by exact F_M i9 hi9), hzn, hT⟩
  exact x_iret hx hb hr hlocks hw ⟨rfl, z, zn, hRz, (fun _ _ => rfl)⟩ dX5_mend_19

set_option maxHeartbeats 4000000 in
set_option maxRecDepth 100000 in
theorem k_X5_mend_state (l : Launch) (D : va_G) (ca : Nat → ClassId) (N : Nat) (ad : Nat → Nat) (B tR tK : Nat) (f : Nat → va_E) (dd : xD N ad B) (hN : 302 ≤ N) (n : Nat → Nat) (g : Nat → Nat → Int32) (z : Nat → Nat → Int32) (zn : Nat) (tb : Nat → Int32) (hR : RepX ca ad n g z zn tb f) (i : Nat) (j : Nat) (h2 : n 2 ≤ 20) (hi : i < n 2) (hj : j ≤ 1000000) (hsz : ∀ i, i < 20 → n (10 + i) ≤ 200) (hf : fitsX n g i i) : xMi l yX5_mend wsX5_mend rmX5_mend [.ref (ad 0), .int (nI i), .int (nI j)] D ca N ad B tR tK f (fun r u => (-3) = r ∧ ∃ (z1 : Nat → Nat → Int32) (zn1 : Nat), RepX ca ad n g z1 zn1 tb u ∧ ∀ y, 302 ≤ y → u y = f y) := by
  refine x_open (cc := cX5_mend) (maxL := 5) (ret := (some .int)) (by decide) rfl (Nat.le_of_ble_eq_true rfl) ?_
  intro p e s m below meth c ls hx hb hml hown hts hr hlocks hnm hB hK hE hw hl
  have hown : s.vm.findClass RX5 = some m.cls := hown
  have hl : lv_has ls 5 [(0, .ref (ad 0)), (1, .int (nI i)), (2, .int (nI j))] := hl
  obtain ⟨c_0, c_1, c_2, c_3, c_4, c_5, c_6, c_7, c_8, c_9, c_90, c_91, c_92, c_93, c_94, c_95, c_96, c_97, c_98, c_99, c_300, c_301, F_kf, F_oc, F_va, F_lw, F_M, hzn, hT⟩ := hR
  have hin_6 : ∀ w ∈ u_ws RX5 TX5 13, w ∈ wsX5_mend := by decide +kernel
  have hf_49 := hts (.fieldLink RX5 49 "FixityRows" "files" "[LFixityRows$KeptFile;") (by decide +kernel)
  have hin_1 : ∀ w ∈ u_ws RX0 TX0 8, w ∈ wsX5_mend := by decide +kernel
  have b_0 := c_0
  have b_1 := c_1
  have b_2 := c_2
  have b_3 := c_3
  have b_4 := c_4
  have b_5 := c_5
  have b_6 := c_6
  have b_7 := c_7
  have b_8 := c_8
  have b_9 := c_9
  have b_90 := c_90
  have b_91 := c_91
  have b_92 := c_92
  have b_93 := c_93
  have b_94 := c_94
  have b_95 := c_95
  have b_96 := c_96
  have b_97 := c_97
  have b_98 := c_98
  have b_99 := c_99
  have b_300 := c_300
  have b_301 := c_301
  refine lv_aload_n hx hb dX5_mend_0 rfl (lv_at hl 0 rfl) ?_
  refine lv_iload_n hx hb dX5_mend_1 rfl (lv_at hl 1 rfl) ?_
  have hRk : RepX ca ad n g z zn tb f := ⟨c_0,
        c_1,
        c_2,
        c_3,
        c_4,
        c_5,
        c_6,
        c_7,
        c_8,
        c_9,
        c_90,
        c_91,
        c_92,
        c_93,
        c_94,
        c_95,
        c_96,
        c_97,
        c_98,
        c_99,
        c_300,
        c_301,
        (fun i9 hi9 => by exact F_kf i9 hi9),
        (fun i9 hi9 => by exact F_oc i9 hi9),
        (fun i9 hi9 => by exact F_va i9 hi9),
        (fun i9 hi9 => by exact F_lw i9 hi9),
        (fun i9 hi9 => by exact F_M i9 hi9), hzn, hT⟩
  have hfr : ∀ y, 302 ≤ y → f y = f y := (fun _ _ => rfl)
  refine x_Vi (q := 0) (As := [.int (nI i)]) (rest := []) ⟨hx, hb, hml, hown, hts⟩ (k_X5_isFile_yes l D ca N ad B tR tK f dd hN n g z zn tb hRk i (by omega) (by omega)) (cwV 1 hts gX5_mend_X5_isFile rfl rfl rfl (by decide +kernel) ⟨Nat.le_of_ble_eq_true rfl, Nat.le_of_ble_eq_true rfl⟩) hK hE hB hw (by omega) c_0 rfl rfl rfl rfl hl.1 (Nat.le_of_ble_eq_true rfl) ⟨Nat.zero_le _, Nat.zero_le _⟩ dX5_mend_2 (fun r_2 f_1 H locs hp hw => ?_)
  obtain ⟨er, hp⟩ := hp
  rw [← er]
  rw [← hp] at hw
  refine lv_if_ne (tgt := 10) hx hb dX5_mend_5 (by decide) (fun _ => ?_) (fun h => absurd h (by decide))
  refine lv_iload_n hx hb dX5_mend_10 rfl (lv_at hl 2 rfl) ?_
  refine x_Si (As := [.int (nI j)]) (rest := []) ⟨hx, hb, hml, hown, hts⟩ (k_X5_isDay_yes l D ca N ad B tR tK f dd j   (by omega)) (va_cwS 1 hts gX5_mend_X5_isDay rfl rfl rfl (by decide +kernel) ⟨Nat.le_of_ble_eq_true rfl, Nat.le_of_ble_eq_true rfl⟩) hK hE hB hw rfl rfl hl.1 (Nat.le_of_ble_eq_true rfl) ⟨Nat.zero_le _, Nat.zero_le _⟩ dX5_mend_11 (fun r_4 f_3 H locs hp hw => ?_)
  obtain ⟨er, eu⟩ := hp
  rw [← er]
  rw [← eu] at hw
  refine lv_if_ne (tgt := 20) hx hb dX5_mend_14 (by decide) (fun _ => ?_) (fun h => absurd h (by decide))
  refine lv_aload_n hx hb dX5_mend_20 rfl (lv_at hl 0 rfl) ?_
  refine x_get (ci := 6) (C := RX5) (T := TX5) (n := 13) (ref := RX5) hx hb hts hin_6 hown hK hw 0 (by omega) c_0 rfl 6 (by decide) hf_49 (fun _ h => h) rfl dX5_mend_21 ?_
  refine lv_iload_n hx hb dX5_mend_24 rfl (lv_at hl 1 rfl) ?_
  refine x_aald (j := i) (a := ad (10 + 4 * i)) hx hb hK hw 9 3 (by omega) c_9 rfl rfl (by omega) (by decide) rfl dX5_mend_25 ?_
  refine lv_astore_n (lv' := [(3, .ref (ad (10 + 4 * i))), (0, .ref (ad 0)), (1, .int (nI i)), (2, .int (nI j))]) hx hb dX5_mend_26 rfl hl (by decide) rfl (fun ls hl => ?_)
  refine lv_aload_n hx hb dX5_mend_27 rfl (lv_at hl 1 rfl) ?_
  refine lv_aload_n hx hb dX5_mend_28 rfl (lv_at hl 0 rfl) ?_
  have c_10_4_i : f (10 + 4 * i) = .inr (1, [.ref (ad (11 + 4 * i)), .ref (ad (13 + 4 * i)), .int (g 7 i), .int (g 8 i), .int (g 9 i), .int (g 10 i), .int (g 11 i), .int (g 12 i)]) := (F_kf i (by omega))
  refine x_getN (ci := 1) (C := RX0) (T := TX0) (n := 8) (ref := RX0) hx hb hts hin_1 hown hK hw (10 + 4 * i) (by omega) c_10_4_i rfl 0 (by decide) (hE.1 (103, "octets", "LFixityRows$Octets;") (by decide)) (fun _ h => h) rfl dX5_mend_29 ?_
  refine lv_aload_n hx hb dX5_mend_32 rfl (lv_at hl 0 rfl) ?_
  have hRk : RepX ca ad n g z zn tb f := ⟨c_0,
        c_1,
        c_2,
        c_3,
        c_4,
        c_5,
        c_6,
        c_7,
        c_8,
        c_9,
        c_90,
        c_91,
        c_92,
        c_93,
        c_94,
        c_95,
        c_96,
        c_97,
        c_98,
        c_99,
        c_300,
        c_301,
        (fun i9 hi9 => by exact F_kf i9 hi9),
        (fun i9 hi9 => by exact F_oc i9 hi9),
        (fun i9 hi9 => by exact F_va i9 hi9),
        (fun i9 hi9 => by exact F_lw i9 hi9),
        (fun i9 hi9 => by exact F_M i9 hi9), hzn, hT⟩
  have hfr : ∀ y, 302 ≤ y → f y = f y := (fun _ _ => rfl)
  refine x_Vi (q := 0) (As := [.ref (ad (11 + 4 * i)), .ref (ad (10 + 4 * i))]) (rest := []) ⟨hx, hb, hml, hown, hts⟩ (k_X5_matches_yes l D ca N ad B tR tK f dd hN n g z zn tb hRk i i (by omega) (by omega) hsz hf) (cwV 2 hts gX5_mend_X5_matches rfl rfl rfl (by decide +kernel) ⟨Nat.le_of_ble_eq_true rfl, Nat.le_of_ble_eq_true rfl⟩) hK hE hB hw (by omega) c_0 rfl rfl rfl rfl hl.1 (Nat.le_of_ble_eq_true rfl) ⟨Nat.zero_le _, Nat.zero_le _⟩ dX5_mend_33 (fun r_6 f_5 H locs hp hw => ?_)
  obtain ⟨er, hp⟩ := hp
  rw [← er]
  obtain ⟨z_7, zn_8, hR2, hfr2⟩ := hp
  have hfr : ∀ y, 302 ≤ y → f_5 y = f y := fun y hy => (hfr2 y hy).trans (hfr y hy)
  obtain ⟨c_0, c_1, c_2, c_3, c_4, c_5, c_6, c_7, c_8, c_9, c_90, c_91, c_92, c_93, c_94, c_95, c_96, c_97, c_98, c_99, c_300, c_301, F_kf, F_oc, F_va, F_lw, F_M, hzn, hT⟩ := hR2
  refine lv_if_eq (tgt := 42) hx hb dX5_mend_36 (by decide) (fun h => absurd h (by decide)) (fun _ => ?_)
  refine lv_bipush (v := (-3)) hx hb dX5_mend_39 (by decide) ?_
  have hRz : RepX ca ad n g z_7 zn_8 tb f_5 := ⟨c_0,
        c_1,
        c_2,
        c_3,
        c_4,
        c_5,
        c_6,
        c_7,
        c_8,
        c_9,
        c_90,
        c_91,
        c_92,
        c_93,
        c_94,
        c_95,
        c_96,
        c_97,
        c_98,
        c_99,
        c_300,
        c_301,
        (fun i9 hi9 => by exact F_kf i9 hi9),
        (fun i9 hi9 => by exact F_oc i9 hi9),
        (fun i9 hi9 => by exact F_va i9 hi9),
        (fun i9 hi9 => by exact F_lw i9 hi9),
        (fun i9 hi9 => by exact F_M i9 hi9), hzn, hT⟩
  exact x_iret hx hb hr hlocks hw ⟨rfl, z_7, zn_8, hRz, (fun y hy => hfr y hy)⟩ dX5_mend_41

set_option maxHeartbeats 4000000 in
set_option maxRecDepth 100000 in
theorem k_X5_mend_none (l : Launch) (D : va_G) (ca : Nat → ClassId) (N : Nat) (ad : Nat → Nat) (B tR tK : Nat) (f : Nat → va_E) (dd : xD N ad B) (hN : 302 ≤ N) (n : Nat → Nat) (g : Nat → Nat → Int32) (z : Nat → Nat → Int32) (zn : Nat) (tb : Nat → Int32) (hR : RepX ca ad n g z zn tb f) (i : Nat) (j : Nat) (h2 : n 2 ≤ 20) (hi : i < n 2) (hj : j ≤ 1000000) (hsz : ∀ i, i < 20 → n (10 + i) ≤ 200) (hf : ¬ fitsX n g i i) (hno : ∀ b, b < n 2 → ¬ (fitsX n g b b ∧ fitsX n g b i)) : xMi l yX5_mend wsX5_mend rmX5_mend [.ref (ad 0), .int (nI i), .int (nI j)] D ca N ad B tR tK f (fun r u => (-10) = r ∧ ∃ (z1 : Nat → Nat → Int32) (zn1 : Nat), RepX ca ad n g z1 zn1 tb u ∧ ∀ y, 302 ≤ y → u y = f y) := by
  refine x_open (cc := cX5_mend) (maxL := 5) (ret := (some .int)) (by decide) rfl (Nat.le_of_ble_eq_true rfl) ?_
  intro p e s m below meth c ls hx hb hml hown hts hr hlocks hnm hB hK hE hw hl
  have hown : s.vm.findClass RX5 = some m.cls := hown
  have hl : lv_has ls 5 [(0, .ref (ad 0)), (1, .int (nI i)), (2, .int (nI j))] := hl
  obtain ⟨c_0, c_1, c_2, c_3, c_4, c_5, c_6, c_7, c_8, c_9, c_90, c_91, c_92, c_93, c_94, c_95, c_96, c_97, c_98, c_99, c_300, c_301, F_kf, F_oc, F_va, F_lw, F_M, hzn, hT⟩ := hR
  have hin_6 : ∀ w ∈ u_ws RX5 TX5 13, w ∈ wsX5_mend := by decide +kernel
  have hf_49 := hts (.fieldLink RX5 49 "FixityRows" "files" "[LFixityRows$KeptFile;") (by decide +kernel)
  have hin_1 : ∀ w ∈ u_ws RX0 TX0 8, w ∈ wsX5_mend := by decide +kernel
  have b_0 := c_0
  have b_1 := c_1
  have b_2 := c_2
  have b_3 := c_3
  have b_4 := c_4
  have b_5 := c_5
  have b_6 := c_6
  have b_7 := c_7
  have b_8 := c_8
  have b_9 := c_9
  have b_90 := c_90
  have b_91 := c_91
  have b_92 := c_92
  have b_93 := c_93
  have b_94 := c_94
  have b_95 := c_95
  have b_96 := c_96
  have b_97 := c_97
  have b_98 := c_98
  have b_99 := c_99
  have b_300 := c_300
  have b_301 := c_301
  refine lv_aload_n hx hb dX5_mend_0 rfl (lv_at hl 0 rfl) ?_
  refine lv_iload_n hx hb dX5_mend_1 rfl (lv_at hl 1 rfl) ?_
  have hRk : RepX ca ad n g z zn tb f := ⟨c_0,
        c_1,
        c_2,
        c_3,
        c_4,
        c_5,
        c_6,
        c_7,
        c_8,
        c_9,
        c_90,
        c_91,
        c_92,
        c_93,
        c_94,
        c_95,
        c_96,
        c_97,
        c_98,
        c_99,
        c_300,
        c_301,
        (fun i9 hi9 => by exact F_kf i9 hi9),
        (fun i9 hi9 => by exact F_oc i9 hi9),
        (fun i9 hi9 => by exact F_va i9 hi9),
        (fun i9 hi9 => by exact F_lw i9 hi9),
        (fun i9 hi9 => by exact F_M i9 hi9), hzn, hT⟩
  have hfr : ∀ y, 302 ≤ y → f y = f y := (fun _ _ => rfl)
  refine x_Vi (q := 0) (As := [.int (nI i)]) (rest := []) ⟨hx, hb, hml, hown, hts⟩ (k_X5_isFile_yes l D ca N ad B tR tK f dd hN n g z zn tb hRk i (by omega) (by omega)) (cwV 1 hts gX5_mend_X5_isFile rfl rfl rfl (by decide +kernel) ⟨Nat.le_of_ble_eq_true rfl, Nat.le_of_ble_eq_true rfl⟩) hK hE hB hw (by omega) c_0 rfl rfl rfl rfl hl.1 (Nat.le_of_ble_eq_true rfl) ⟨Nat.zero_le _, Nat.zero_le _⟩ dX5_mend_2 (fun r_2 f_1 H locs hp hw => ?_)
  obtain ⟨er, hp⟩ := hp
  rw [← er]
  rw [← hp] at hw
  refine lv_if_ne (tgt := 10) hx hb dX5_mend_5 (by decide) (fun _ => ?_) (fun h => absurd h (by decide))
  refine lv_iload_n hx hb dX5_mend_10 rfl (lv_at hl 2 rfl) ?_
  refine x_Si (As := [.int (nI j)]) (rest := []) ⟨hx, hb, hml, hown, hts⟩ (k_X5_isDay_yes l D ca N ad B tR tK f dd j   (by omega)) (va_cwS 1 hts gX5_mend_X5_isDay rfl rfl rfl (by decide +kernel) ⟨Nat.le_of_ble_eq_true rfl, Nat.le_of_ble_eq_true rfl⟩) hK hE hB hw rfl rfl hl.1 (Nat.le_of_ble_eq_true rfl) ⟨Nat.zero_le _, Nat.zero_le _⟩ dX5_mend_11 (fun r_4 f_3 H locs hp hw => ?_)
  obtain ⟨er, eu⟩ := hp
  rw [← er]
  rw [← eu] at hw
  refine lv_if_ne (tgt := 20) hx hb dX5_mend_14 (by decide) (fun _ => ?_) (fun h => absurd h (by decide))
  refine lv_aload_n hx hb dX5_mend_20 rfl (lv_at hl 0 rfl) ?_
  refine x_get (ci := 6) (C := RX5) (T := TX5) (n := 13) (ref := RX5) hx hb hts hin_6 hown hK hw 0 (by omega) c_0 rfl 6 (by decide) hf_49 (fun _ h => h) rfl dX5_mend_21 ?_
  refine lv_iload_n hx hb dX5_mend_24 rfl (lv_at hl 1 rfl) ?_
  refine x_aald (j := i) (a := ad (10 + 4 * i)) hx hb hK hw 9 3 (by omega) c_9 rfl rfl (by omega) (by decide) rfl dX5_mend_25 ?_
  refine lv_astore_n (lv' := [(3, .ref (ad (10 + 4 * i))), (0, .ref (ad 0)), (1, .int (nI i)), (2, .int (nI j))]) hx hb dX5_mend_26 rfl hl (by decide) rfl (fun ls hl => ?_)
  refine lv_aload_n hx hb dX5_mend_27 rfl (lv_at hl 1 rfl) ?_
  refine lv_aload_n hx hb dX5_mend_28 rfl (lv_at hl 0 rfl) ?_
  have c_10_4_i : f (10 + 4 * i) = .inr (1, [.ref (ad (11 + 4 * i)), .ref (ad (13 + 4 * i)), .int (g 7 i), .int (g 8 i), .int (g 9 i), .int (g 10 i), .int (g 11 i), .int (g 12 i)]) := (F_kf i (by omega))
  refine x_getN (ci := 1) (C := RX0) (T := TX0) (n := 8) (ref := RX0) hx hb hts hin_1 hown hK hw (10 + 4 * i) (by omega) c_10_4_i rfl 0 (by decide) (hE.1 (103, "octets", "LFixityRows$Octets;") (by decide)) (fun _ h => h) rfl dX5_mend_29 ?_
  refine lv_aload_n hx hb dX5_mend_32 rfl (lv_at hl 0 rfl) ?_
  have hRk : RepX ca ad n g z zn tb f := ⟨c_0,
        c_1,
        c_2,
        c_3,
        c_4,
        c_5,
        c_6,
        c_7,
        c_8,
        c_9,
        c_90,
        c_91,
        c_92,
        c_93,
        c_94,
        c_95,
        c_96,
        c_97,
        c_98,
        c_99,
        c_300,
        c_301,
        (fun i9 hi9 => by exact F_kf i9 hi9),
        (fun i9 hi9 => by exact F_oc i9 hi9),
        (fun i9 hi9 => by exact F_va i9 hi9),
        (fun i9 hi9 => by exact F_lw i9 hi9),
        (fun i9 hi9 => by exact F_M i9 hi9), hzn, hT⟩
  have hfr : ∀ y, 302 ≤ y → f y = f y := (fun _ _ => rfl)
  refine x_Vi (q := 0) (As := [.ref (ad (11 + 4 * i)), .ref (ad (10 + 4 * i))]) (rest := []) ⟨hx, hb, hml, hown, hts⟩ (k_X5_matches_no l D ca N ad B tR tK f dd hN n g z zn tb hRk i i (by omega) (by omega) hsz hf) (cwV 2 hts gX5_mend_X5_matches rfl rfl rfl (by decide +kernel) ⟨Nat.le_of_ble_eq_true rfl, Nat.le_of_ble_eq_true rfl⟩) hK hE hB hw (by omega) c_0 rfl rfl rfl rfl hl.1 (Nat.le_of_ble_eq_true rfl) ⟨Nat.zero_le _, Nat.zero_le _⟩ dX5_mend_33 (fun r_6 f_5 H locs hp hw => ?_)
  obtain ⟨er, hp⟩ := hp
  rw [← er]
  obtain ⟨z_7, zn_8, hR2, hfr2⟩ := hp
  have hfr : ∀ y, 302 ≤ y → f_5 y = f y := fun y hy => (hfr2 y hy).trans (hfr y hy)
  obtain ⟨c_0, c_1, c_2, c_3, c_4, c_5, c_6, c_7, c_8, c_9, c_90, c_91, c_92, c_93, c_94, c_95, c_96, c_97, c_98, c_99, c_300, c_301, F_kf, F_oc, F_va, F_lw, F_M, hzn, hT⟩ := hR2
  refine lv_if_eq (tgt := 42) hx hb dX5_mend_36 (by decide) (fun _ => ?_) (fun h => False.elim (h (by decide)))
  refine lv_aload_n hx hb dX5_mend_42 rfl (lv_at hl 1 rfl) ?_
  refine lv_aload_n hx hb dX5_mend_43 rfl (lv_at hl 0 rfl) ?_
  have hRk : RepX ca ad n g z_7 zn_8 tb f_5 := ⟨c_0,
        c_1,
        c_2,
        c_3,
        c_4,
        c_5,
        c_6,
        c_7,
        c_8,
        c_9,
        c_90,
        c_91,
        c_92,
        c_93,
        c_94,
        c_95,
        c_96,
        c_97,
        c_98,
        c_99,
        c_300,
        c_301,
        (fun i9 hi9 => by exact F_kf i9 hi9),
        (fun i9 hi9 => by exact F_oc i9 hi9),
        (fun i9 hi9 => by exact F_va i9 hi9),
        (fun i9 hi9 => by exact F_lw i9 hi9),
        (fun i9 hi9 => by exact F_M i9 hi9), hzn, hT⟩
  have hfr : ∀ y, 302 ≤ y → f_5 y = f y := (fun y hy => hfr y hy)
  refine x_Vi (q := 0) (As := [.ref (ad (10 + 4 * i))]) (rest := []) ⟨hx, hb, hml, hown, hts⟩ (k_X5_firstCopyFor_none l D ca N ad B tR tK f_5 dd hN n g z_7 zn_8 tb hRk i (by omega) hsz (by omega) hno) (cwV 1 hts gX5_mend_X5_firstCopyFor rfl rfl rfl (by decide +kernel) ⟨Nat.le_of_ble_eq_true rfl, Nat.le_of_ble_eq_true rfl⟩) hK hE hB hw (by omega) c_0 rfl rfl rfl rfl hl.1 (Nat.le_of_ble_eq_true rfl) ⟨Nat.zero_le _, Nat.zero_le _⟩ dX5_mend_44 (fun r_12 f_11 H locs hp hw => ?_)
  obtain ⟨er, hp⟩ := hp
  rw [← er]
  obtain ⟨z_13, zn_14, hR2, hfr2⟩ := hp
  have hfr : ∀ y, 302 ≤ y → f_11 y = f y := fun y hy => (hfr2 y hy).trans (hfr y hy)
  obtain ⟨c_0, c_1, c_2, c_3, c_4, c_5, c_6, c_7, c_8, c_9, c_90, c_91, c_92, c_93, c_94, c_95, c_96, c_97, c_98, c_99, c_300, c_301, F_kf, F_oc, F_va, F_lw, F_M, hzn, hT⟩ := hR2
  refine lv_istore (lv' := [(4, .int ((-1))), (3, .ref (ad (10 + 4 * i))), (0, .ref (ad 0)), (1, .int (nI i)), (2, .int (nI j))]) hx hb dX5_mend_47 hl (by decide) rfl (fun ls hl => ?_)
  refine lv_iload hx hb dX5_mend_49 (lv_at hl 0 rfl) ?_
  refine lv_iconst (v := (-1)) hx hb dX5_mend_51 (by decide) ?_
  refine lv_icmp_ne (tgt := 58) hx hb dX5_mend_52 (by decide) (fun hc_52 => ?_) (fun hc_52 => ?_)
  · exact absurd rfl hc_52
  · refine lv_bipush (v := (-10)) hx hb dX5_mend_55 (by decide) ?_
    have hRz : RepX ca ad n g z_13 zn_14 tb f_11 := ⟨c_0,
          c_1,
          c_2,
          c_3,
          c_4,
          c_5,
          c_6,
          c_7,
          c_8,
          c_9,
          c_90,
          c_91,
          c_92,
          c_93,
          c_94,
          c_95,
          c_96,
          c_97,
          c_98,
          c_99,
          c_300,
          c_301,
          (fun i9 hi9 => by exact F_kf i9 hi9),
          (fun i9 hi9 => by exact F_oc i9 hi9),
          (fun i9 hi9 => by exact F_va i9 hi9),
          (fun i9 hi9 => by exact F_lw i9 hi9),
          (fun i9 hi9 => by exact F_M i9 hi9), hzn, hT⟩
    exact x_iret hx hb hr hlocks hw ⟨rfl, z_13, zn_14, hRz, (fun y hy => hfr y hy)⟩ dX5_mend_57

set_option maxHeartbeats 4000000 in
set_option maxRecDepth 100000 in
theorem k_X5_mend_in (l : Launch) (D : va_G) (ca : Nat → ClassId) (N : Nat) (ad : Nat → Nat) (B tR tK : Nat) (f : Nat → va_E) (dd : xD N ad B) (hN : 302 ≤ N) (n : Nat → Nat) (g : Nat → Nat → Int32) (z : Nat → Nat → Int32) (zn : Nat) (tb : Nat → Int32) (hR : RepX ca ad n g z zn tb f) (i : Nat) (j : Nat) (b : Nat) (h2 : n 2 ≤ 20) (hi : i < n 2) (hj : j ≤ 1000000) (hsz : ∀ i, i < 20 → n (10 + i) ≤ 200) (hf : ¬ fitsX n g i i) (hb9 : b < n 2) (hib : i ≠ b) (hyes : fitsX n g b b ∧ fitsX n g b i) (hno : ∀ q, q < b → ¬ (fitsX n g q q ∧ fitsX n g q i)) (h5 : n 5 < 200) : xMi l yX5_mend wsX5_mend rmX5_mend [.ref (ad 0), .int (nI i), .int (nI j)] D ca N ad B tR tK f (fun r u => nI b = r ∧ ∃ (z1 : Nat → Nat → Int32) (zn1 : Nat), RepX ca ad (va_up (va_up n 5 ((n 5) + 1)) (10 + i) (n (10 + b))) (va_up (va_up (va_up (va_up (va_up (va_up g 4 (upd (g 4) (n 5) (nI 3))) 5 (upd (g 5) (n 5) (nI i))) 6 (upd (g 6) (n 5) (nI j))) 12 (upd (g 12) i ((g 12 i) + (nI 1)))) (100 + i) (cpyTo (g (100 + i)) (g (100 + b)) (n (10 + b)))) (1000 + (n 5)) (rowD (prevD (fun i8 => g (1000 + i8)) (n 5)) (nI 3) (nI i) (nI j))) z1 zn1 tb u ∧ ∀ y, 302 ≤ y → u y = f y) := by
  refine x_open (cc := cX5_mend) (maxL := 5) (ret := (some .int)) (by decide) rfl (Nat.le_of_ble_eq_true rfl) ?_
  intro p e s m below meth c ls hx hb hml hown hts hr hlocks hnm hB hK hE hw hl
  have hown : s.vm.findClass RX5 = some m.cls := hown
  have hl : lv_has ls 5 [(0, .ref (ad 0)), (1, .int (nI i)), (2, .int (nI j))] := hl
  obtain ⟨c_0, c_1, c_2, c_3, c_4, c_5, c_6, c_7, c_8, c_9, c_90, c_91, c_92, c_93, c_94, c_95, c_96, c_97, c_98, c_99, c_300, c_301, F_kf, F_oc, F_va, F_lw, F_M, hzn, hT⟩ := hR
  have hin_6 : ∀ w ∈ u_ws RX5 TX5 13, w ∈ wsX5_mend := by decide +kernel
  have hf_49 := hts (.fieldLink RX5 49 "FixityRows" "files" "[LFixityRows$KeptFile;") (by decide +kernel)
  have hin_1 : ∀ w ∈ u_ws RX0 TX0 8, w ∈ wsX5_mend := by decide +kernel
  have hf_57 := hts (.fieldLink RX5 57 "FixityRows" "rows" "LFixityRows$RowChain;") (by decide +kernel)
  have b_0 := c_0
  have b_1 := c_1
  have b_2 := c_2
  have b_3 := c_3
  have b_4 := c_4
  have b_5 := c_5
  have b_6 := c_6
  have b_7 := c_7
  have b_8 := c_8
  have b_9 := c_9
  have b_90 := c_90
  have b_91 := c_91
  have b_92 := c_92
  have b_93 := c_93
  have b_94 := c_94
  have b_95 := c_95
  have b_96 := c_96
  have b_97 := c_97
  have b_98 := c_98
  have b_99 := c_99
  have b_300 := c_300
  have b_301 := c_301
  refine lv_aload_n hx hb dX5_mend_0 rfl (lv_at hl 0 rfl) ?_
  refine lv_iload_n hx hb dX5_mend_1 rfl (lv_at hl 1 rfl) ?_
  have hRk : RepX ca ad n g z zn tb f := ⟨c_0,
        c_1,
        c_2,
        c_3,
        c_4,
        c_5,
        c_6,
        c_7,
        c_8,
        c_9,
        c_90,
        c_91,
        c_92,
        c_93,
        c_94,
        c_95,
        c_96,
        c_97,
        c_98,
        c_99,
        c_300,
        c_301,
        (fun i9 hi9 => by exact F_kf i9 hi9),
        (fun i9 hi9 => by exact F_oc i9 hi9),
        (fun i9 hi9 => by exact F_va i9 hi9),
        (fun i9 hi9 => by exact F_lw i9 hi9),
        (fun i9 hi9 => by exact F_M i9 hi9), hzn, hT⟩
  have hfr : ∀ y, 302 ≤ y → f y = f y := (fun _ _ => rfl)
  refine x_Vi (q := 0) (As := [.int (nI i)]) (rest := []) ⟨hx, hb, hml, hown, hts⟩ (k_X5_isFile_yes l D ca N ad B tR tK f dd hN n g z zn tb hRk i (by omega) (by omega)) (cwV 1 hts gX5_mend_X5_isFile rfl rfl rfl (by decide +kernel) ⟨Nat.le_of_ble_eq_true rfl, Nat.le_of_ble_eq_true rfl⟩) hK hE hB hw (by omega) c_0 rfl rfl rfl rfl hl.1 (Nat.le_of_ble_eq_true rfl) ⟨Nat.zero_le _, Nat.zero_le _⟩ dX5_mend_2 (fun r_2 f_1 H locs hp hw => ?_)
  obtain ⟨er, hp⟩ := hp
  rw [← er]
  rw [← hp] at hw
  refine lv_if_ne (tgt := 10) hx hb dX5_mend_5 (by decide) (fun _ => ?_) (fun h => absurd h (by decide))
  refine lv_iload_n hx hb dX5_mend_10 rfl (lv_at hl 2 rfl) ?_
  refine x_Si (As := [.int (nI j)]) (rest := []) ⟨hx, hb, hml, hown, hts⟩ (k_X5_isDay_yes l D ca N ad B tR tK f dd j   (by omega)) (va_cwS 1 hts gX5_mend_X5_isDay rfl rfl rfl (by decide +kernel) ⟨Nat.le_of_ble_eq_true rfl, Nat.le_of_ble_eq_true rfl⟩) hK hE hB hw rfl rfl hl.1 (Nat.le_of_ble_eq_true rfl) ⟨Nat.zero_le _, Nat.zero_le _⟩ dX5_mend_11 (fun r_4 f_3 H locs hp hw => ?_)
  obtain ⟨er, eu⟩ := hp
  rw [← er]
  rw [← eu] at hw
  refine lv_if_ne (tgt := 20) hx hb dX5_mend_14 (by decide) (fun _ => ?_) (fun h => absurd h (by decide))
  refine lv_aload_n hx hb dX5_mend_20 rfl (lv_at hl 0 rfl) ?_
  refine x_get (ci := 6) (C := RX5) (T := TX5) (n := 13) (ref := RX5) hx hb hts hin_6 hown hK hw 0 (by omega) c_0 rfl 6 (by decide) hf_49 (fun _ h => h) rfl dX5_mend_21 ?_
  refine lv_iload_n hx hb dX5_mend_24 rfl (lv_at hl 1 rfl) ?_
  refine x_aald (j := i) (a := ad (10 + 4 * i)) hx hb hK hw 9 3 (by omega) c_9 rfl rfl (by omega) (by decide) rfl dX5_mend_25 ?_
  refine lv_astore_n (lv' := [(3, .ref (ad (10 + 4 * i))), (0, .ref (ad 0)), (1, .int (nI i)), (2, .int (nI j))]) hx hb dX5_mend_26 rfl hl (by decide) rfl (fun ls hl => ?_)
  refine lv_aload_n hx hb dX5_mend_27 rfl (lv_at hl 1 rfl) ?_
  refine lv_aload_n hx hb dX5_mend_28 rfl (lv_at hl 0 rfl) ?_
  have c_10_4_i : f (10 + 4 * i) = .inr (1, [.ref (ad (11 + 4 * i)), .ref (ad (13 + 4 * i)), .int (g 7 i), .int (g 8 i), .int (g 9 i), .int (g 10 i), .int (g 11 i), .int (g 12 i)]) := (F_kf i (by omega))
  refine x_getN (ci := 1) (C := RX0) (T := TX0) (n := 8) (ref := RX0) hx hb hts hin_1 hown hK hw (10 + 4 * i) (by omega) c_10_4_i rfl 0 (by decide) (hE.1 (103, "octets", "LFixityRows$Octets;") (by decide)) (fun _ h => h) rfl dX5_mend_29 ?_
  refine lv_aload_n hx hb dX5_mend_32 rfl (lv_at hl 0 rfl) ?_
  have hRk : RepX ca ad n g z zn tb f := ⟨c_0,
        c_1,
        c_2,
        c_3,
        c_4,
        c_5,
        c_6,
        c_7,
        c_8,
        c_9,
        c_90,
        c_91,
        c_92,
        c_93,
        c_94,
        c_95,
        c_96,
        c_97,
        c_98,
        c_99,
        c_300,
        c_301,
        (fun i9 hi9 => by exact F_kf i9 hi9),
        (fun i9 hi9 => by exact F_oc i9 hi9),
        (fun i9 hi9 => by exact F_va i9 hi9),
        (fun i9 hi9 => by exact F_lw i9 hi9),
        (fun i9 hi9 => by exact F_M i9 hi9), hzn, hT⟩
  have hfr : ∀ y, 302 ≤ y → f y = f y := (fun _ _ => rfl)
  refine x_Vi (q := 0) (As := [.ref (ad (11 + 4 * i)), .ref (ad (10 + 4 * i))]) (rest := []) ⟨hx, hb, hml, hown, hts⟩ (k_X5_matches_no l D ca N ad B tR tK f dd hN n g z zn tb hRk i i (by omega) (by omega) hsz hf) (cwV 2 hts gX5_mend_X5_matches rfl rfl rfl (by decide +kernel) ⟨Nat.le_of_ble_eq_true rfl, Nat.le_of_ble_eq_true rfl⟩) hK hE hB hw (by omega) c_0 rfl rfl rfl rfl hl.1 (Nat.le_of_ble_eq_true rfl) ⟨Nat.zero_le _, Nat.zero_le _⟩ dX5_mend_33 (fun r_6 f_5 H locs hp hw => ?_)
  obtain ⟨er, hp⟩ := hp
  rw [← er]
  obtain ⟨z_7, zn_8, hR2, hfr2⟩ := hp
  have hfr : ∀ y, 302 ≤ y → f_5 y = f y := fun y hy => (hfr2 y hy).trans (hfr y hy)
  obtain ⟨c_0, c_1, c_2, c_3, c_4, c_5, c_6, c_7, c_8, c_9, c_90, c_91, c_92, c_93, c_94, c_95, c_96, c_97, c_98, c_99, c_300, c_301, F_kf, F_oc, F_va, F_lw, F_M, hzn, hT⟩ := hR2
  refine lv_if_eq (tgt := 42) hx hb dX5_mend_36 (by decide) (fun _ => ?_) (fun h => False.elim (h (by decide)))
  refine lv_aload_n hx hb dX5_mend_42 rfl (lv_at hl 1 rfl) ?_
  refine lv_aload_n hx hb dX5_mend_43 rfl (lv_at hl 0 rfl) ?_
  have hRk : RepX ca ad n g z_7 zn_8 tb f_5 := ⟨c_0,
        c_1,
        c_2,
        c_3,
        c_4,
        c_5,
        c_6,
        c_7,
        c_8,
        c_9,
        c_90,
        c_91,
        c_92,
        c_93,
        c_94,
        c_95,
        c_96,
        c_97,
        c_98,
        c_99,
        c_300,
        c_301,
        (fun i9 hi9 => by exact F_kf i9 hi9),
        (fun i9 hi9 => by exact F_oc i9 hi9),
        (fun i9 hi9 => by exact F_va i9 hi9),
        (fun i9 hi9 => by exact F_lw i9 hi9),
        (fun i9 hi9 => by exact F_M i9 hi9), hzn, hT⟩
  have hfr : ∀ y, 302 ≤ y → f_5 y = f y := (fun y hy => hfr y hy)
  refine x_Vi (q := 0) (As := [.ref (ad (10 + 4 * i))]) (rest := []) ⟨hx, hb, hml, hown, hts⟩ (k_X5_firstCopyFor_some l D ca N ad B tR tK f_5 dd hN n g z_7 zn_8 tb hRk i b (by omega) hsz (by omega) (by omega) hyes hno) (cwV 1 hts gX5_mend_X5_firstCopyFor rfl rfl rfl (by decide +kernel) ⟨Nat.le_of_ble_eq_true rfl, Nat.le_of_ble_eq_true rfl⟩) hK hE hB hw (by omega) c_0 rfl rfl rfl rfl hl.1 (Nat.le_of_ble_eq_true rfl) ⟨Nat.zero_le _, Nat.zero_le _⟩ dX5_mend_44 (fun r_12 f_11 H locs hp hw => ?_)
  obtain ⟨er, hp⟩ := hp
  rw [← er]
  obtain ⟨z_13, zn_14, hR2, hfr2⟩ := hp
  have hfr : ∀ y, 302 ≤ y → f_11 y = f y := fun y hy => (hfr2 y hy).trans (hfr y hy)
  obtain ⟨c_0, c_1, c_2, c_3, c_4, c_5, c_6, c_7, c_8, c_9, c_90, c_91, c_92, c_93, c_94, c_95, c_96, c_97, c_98, c_99, c_300, c_301, F_kf, F_oc, F_va, F_lw, F_M, hzn, hT⟩ := hR2
  refine lv_istore (lv' := [(4, .int (nI b)), (3, .ref (ad (10 + 4 * i))), (0, .ref (ad 0)), (1, .int (nI i)), (2, .int (nI j))]) hx hb dX5_mend_47 hl (by decide) rfl (fun ls hl => ?_)
  refine lv_iload hx hb dX5_mend_49 (lv_at hl 0 rfl) ?_
  refine lv_iconst (v := (-1)) hx hb dX5_mend_51 (by decide) ?_
  refine lv_icmp_ne (tgt := 58) hx hb dX5_mend_52 (by decide) (fun hc_52 => ?_) (fun hc_52 => ?_)
  · refine lv_aload_n hx hb dX5_mend_58 rfl (lv_at hl 1 rfl) ?_
    have c_10_4_i : f_11 (10 + 4 * i) = .inr (1, [.ref (ad (11 + 4 * i)), .ref (ad (13 + 4 * i)), .int (g 7 i), .int (g 8 i), .int (g 9 i), .int (g 10 i), .int (g 11 i), .int (g 12 i)]) := (F_kf i (by omega))
    refine x_getN (ci := 1) (C := RX0) (T := TX0) (n := 8) (ref := RX0) hx hb hts hin_1 hown hK hw (10 + 4 * i) (by omega) c_10_4_i rfl 0 (by decide) (hE.1 (103, "octets", "LFixityRows$Octets;") (by decide)) (fun _ h => h) rfl dX5_mend_59 ?_
    refine lv_aload_n hx hb dX5_mend_62 rfl (lv_at hl 2 rfl) ?_
    refine x_get (ci := 6) (C := RX5) (T := TX5) (n := 13) (ref := RX5) hx hb hts hin_6 hown hK hw 0 (by omega) c_0 rfl 6 (by decide) hf_49 (fun _ h => h) rfl dX5_mend_63 ?_
    refine lv_iload hx hb dX5_mend_66 (lv_at hl 0 rfl) ?_
    refine x_aald (j := b) (a := ad (10 + 4 * b)) hx hb hK hw 9 3 (by omega) c_9 rfl rfl (by omega) (by decide) rfl dX5_mend_68 ?_
    have c_10_4_b : f_11 (10 + 4 * b) = .inr (1, [.ref (ad (11 + 4 * b)), .ref (ad (13 + 4 * b)), .int (g 7 b), .int (g 8 b), .int (g 9 b), .int (g 10 b), .int (g 11 b), .int (g 12 b)]) := (F_kf b (by omega))
    refine x_getN (ci := 1) (C := RX0) (T := TX0) (n := 8) (ref := RX0) hx hb hts hin_1 hown hK hw (10 + 4 * b) (by omega) c_10_4_b rfl 0 (by decide) (hE.1 (103, "octets", "LFixityRows$Octets;") (by decide)) (fun _ h => h) rfl dX5_mend_69 ?_
    have c_11_4_i : f_11 (11 + 4 * i) = .inr (3, [.ref (ad (12 + 4 * i)), .int (nI (n (10 + i)))]) := (F_oc i (by omega))
    have c_12_4_i : f_11 (12 + 4 * i) = ai (ca 0) 200 (g (100 + i)) := (F_va i (by omega))
    have c_11_4_b : f_11 (11 + 4 * b) = .inr (3, [.ref (ad (12 + 4 * b)), .int (nI (n (10 + b)))]) := (F_oc b (by omega))
    have c_12_4_b : f_11 (12 + 4 * b) = ai (ca 0) 200 (g (100 + b)) := (F_va b (by omega))
    refine x_Vv (q := 11 + 4 * i) (As := [.ref (ad (11 + 4 * b))]) (rest := []) ⟨hx, hb, hml, hown, hts⟩ (k_X2_copyFrom l D ca N ad B tR tK f_11 dd (11 + 4 * i) (12 + 4 * i) (n (10 + i)) (g (100 + i)) (11 + 4 * b) (12 + 4 * b) (n (10 + b)) (g (100 + b)) (by omega) c_11_4_i (by omega) c_12_4_i (by omega) c_11_4_b (by omega) c_12_4_b  (by omega) (by omega) (hsz b (by omega))) (cwV 1 hts gX5_mend_X2_copyFrom rfl rfl rfl (by decide +kernel) ⟨Nat.le_of_ble_eq_true rfl, Nat.le_of_ble_eq_true rfl⟩) hK hE hB hw (by omega) c_11_4_i rfl rfl rfl rfl hl.1 (Nat.le_of_ble_eq_true rfl) ⟨Nat.zero_le _, Nat.zero_le _⟩ dX5_mend_72 (fun f_17 H locs hp hw => ?_)
    have eu := hp
    have ef_17 : f_17 = va_up (va_up f_11 (11 + 4 * i) (.inr (3, [.ref (ad (12 + 4 * i)), .int (nI (n (10 + b)))]))) (12 + 4 * i) (ai (ca 0) 200 (cpyTo (g (100 + i)) (g (100 + b)) (n (10 + b)))) := eu
    have c_11_4_i : f_17 (11 + 4 * i) = .inr (3, [.ref (ad (12 + 4 * i)), .int (nI (n (10 + b)))]) := by rw [ef_17, va_up_ne _ _ (by omega), va_up_self]
    have c_12_4_i : f_17 (12 + 4 * i) = ai (ca 0) 200 (cpyTo (g (100 + i)) (g (100 + b)) (n (10 + b))) := by rw [ef_17, va_up_self]
    refine lv_aload_n hx hb dX5_mend_75 rfl (lv_at hl 1 rfl) ?_
    refine lv_dup hx hb dX5_mend_76 rfl ?_
    have c_10_4_i : f_17 (10 + 4 * i) = .inr (1, [.ref (ad (11 + 4 * i)), .ref (ad (13 + 4 * i)), .int (g 7 i), .int (g 8 i), .int (g 9 i), .int (g 10 i), .int (g 11 i), .int (g 12 i)]) := by rw [ef_17, va_up_ne _ _ (by omega), va_up_ne _ _ (by omega)]; exact c_10_4_i
    refine x_getN (ci := 1) (C := RX0) (T := TX0) (n := 8) (ref := RX0) hx hb hts hin_1 hown hK hw (10 + 4 * i) (by omega) c_10_4_i rfl 7 (by decide) (hE.1 (170, "mendings", "I") (by decide)) (fun _ h => h) rfl dX5_mend_77 ?_
    refine lv_iconst (v := nI 1) hx hb dX5_mend_80 (by decide) ?_
    refine lv_iadd hx hb dX5_mend_81 ?_
    refine lv_topi (fun x_19 ex_19 => ?_)
    refine x_putN (ci := 1) (C := RX0) (T := TX0) (n := 8) (ref := RX0) (fs' := [.ref (ad (11 + 4 * i)), .ref (ad (13 + 4 * i)), .int (g 7 i), .int (g 8 i), .int (g 9 i), .int (g 10 i), .int (g 11 i), .int x_19]) hx hb hts hin_1 tyX0 tyX0_ok nmX0 hown hK dd hw (10 + 4 * i) (by omega) c_10_4_i rfl 7 (by decide) (hE.1 (170, "mendings", "I") (by decide)) (fun _ h => h) rfl rfl rfl (Nat.le_of_ble_eq_true rfl) rfl dX5_mend_82 (fun H locs hw => ?_)
    obtain ⟨f_20, ef_20⟩ : ∃ z, z = va_up f_17 (10 + 4 * i) (.inr (1, [.ref (ad (11 + 4 * i)), .ref (ad (13 + 4 * i)), .int (g 7 i), .int (g 8 i), .int (g 9 i), .int (g 10 i), .int (g 11 i), .int x_19])) := ⟨_, rfl⟩
    have hw : xw D vwCl N ad B s.heap f_20 H locs := by rw [ef_20]; exact hw
    have c_10_4_i : f_20 (10 + 4 * i) = .inr (1, [.ref (ad (11 + 4 * i)), .ref (ad (13 + 4 * i)), .int (g 7 i), .int (g 8 i), .int (g 9 i), .int (g 10 i), .int (g 11 i), .int x_19]) := va_up_of ef_20
    refine lv_aload_n hx hb dX5_mend_85 rfl (lv_at hl 2 rfl) ?_
    have c_0 : f_20 0 = .inr (6, [.int (nI (n 0)), .ref (ad 1), .ref (ad 4), .ref (ad 6), .ref (ad 8), .int (nI (n 1)), .ref (ad 9), .int (nI (n 2)), .ref (ad 90), .ref (ad 300), .ref (ad 301), .int (nI (n 3)), .int (g 13 0)]) := by rw [ef_20, va_up_ne _ _ (by omega), ef_17, va_up_ne _ _ (by omega), va_up_ne _ _ (by omega)]; exact c_0
    refine x_get (ci := 6) (C := RX5) (T := TX5) (n := 13) (ref := RX5) hx hb hts hin_6 hown hK hw 0 (by omega) c_0 rfl 8 (by decide) hf_57 (fun _ h => h) rfl dX5_mend_86 ?_
    refine lv_iconst (v := nI 3) hx hb dX5_mend_89 (by decide) ?_
    refine lv_iload_n hx hb dX5_mend_90 rfl (lv_at hl 3 rfl) ?_
    refine lv_iload_n hx hb dX5_mend_91 rfl (lv_at hl 4 rfl) ?_
    have c_90 : f_20 90 = .inr (4, [.ref (ad 91), .ref (ad 94), .ref (ad 96), .ref (ad 97), .ref (ad 98), .ref (ad 99), .int (nI (n 5))]) := by rw [ef_20, va_up_ne _ _ (by omega), ef_17, va_up_ne _ _ (by omega), va_up_ne _ _ (by omega)]; exact c_90
    have c_91 : f_20 91 = .inr (2, [.ref (ad 92), .ref (ad 93)]) := by rw [ef_20, va_up_ne _ _ (by omega), ef_17, va_up_ne _ _ (by omega), va_up_ne _ _ (by omega)]; exact c_91
    have c_92 : f_20 92 = ai (ca 0) 8 (z_13 2) := by rw [ef_20, va_up_ne _ _ (by omega), ef_17, va_up_ne _ _ (by omega), va_up_ne _ _ (by omega)]; exact c_92
    have c_93 : f_20 93 = ai (ca 0) 64 (z_13 3) := by rw [ef_20, va_up_ne _ _ (by omega), ef_17, va_up_ne _ _ (by omega), va_up_ne _ _ (by omega)]; exact c_93
    have c_94 : f_20 94 = .inr (3, [.ref (ad 95), .int (nI zn_14)]) := by rw [ef_20, va_up_ne _ _ (by omega), ef_17, va_up_ne _ _ (by omega), va_up_ne _ _ (by omega)]; exact c_94
    have c_95 : f_20 95 = ai (ca 0) 200 (z_13 4) := by rw [ef_20, va_up_ne _ _ (by omega), ef_17, va_up_ne _ _ (by omega), va_up_ne _ _ (by omega)]; exact c_95
    have c_96 : f_20 96 = ai (ca 0) 200 (g 4) := by rw [ef_20, va_up_ne _ _ (by omega), ef_17, va_up_ne _ _ (by omega), va_up_ne _ _ (by omega)]; exact c_96
    have c_97 : f_20 97 = ai (ca 0) 200 (g 5) := by rw [ef_20, va_up_ne _ _ (by omega), ef_17, va_up_ne _ _ (by omega), va_up_ne _ _ (by omega)]; exact c_97
    have c_98 : f_20 98 = ai (ca 0) 200 (g 6) := by rw [ef_20, va_up_ne _ _ (by omega), ef_17, va_up_ne _ _ (by omega), va_up_ne _ _ (by omega)]; exact c_98
    have c_99 : f_20 99 = aq (ca 4) 200 (fun i => some (ad (100 + i))) := by rw [ef_20, va_up_ne _ _ (by omega), ef_17, va_up_ne _ _ (by omega), va_up_ne _ _ (by omega)]; exact c_99
    refine x_Vv (q := 90) (As := [.int (nI 3), .int (nI i), .int (nI j)]) (rest := []) ⟨hx, hb, hml, hown, hts⟩ (k_X3_append_in l D ca N ad B tR tK f_20 dd (n 5) (z_13 2) (z_13 3) zn_14 (z_13 4) (g 4) (g 5) (g 6) (fun i8 => g (1000 + i8)) (nI 3) (nI i) (nI j) c_90 c_91 c_92 c_93 c_94 c_95 c_96 c_97 c_98 c_99 (fun i hi => by rw [ef_20, va_up_ne _ _ (by omega), ef_17, va_up_ne _ _ (by omega), va_up_ne _ _ (by omega)]; exact F_M i hi) (by omega) (by omega) (by omega)) (cwV 3 hts gX5_mend_X3_append rfl rfl rfl (by decide +kernel) ⟨Nat.le_of_ble_eq_true rfl, Nat.le_of_ble_eq_true rfl⟩) hK hE hB hw (by omega) c_90 rfl rfl rfl rfl hl.1 (Nat.le_of_ble_eq_true rfl) ⟨Nat.zero_le _, Nat.zero_le _⟩ dX5_mend_92 (fun f_21 H locs hp hw => ?_)
    obtain ⟨sv1_23, w1_24, e1_25, eu⟩ := hp
    have ef_21 : f_21 = va_up (va_up (va_up (va_up (va_up (va_up (va_up (va_up (va_up f_20 96 (ai (ca 0) 200 (upd (g 4) (n 5) (nI 3)))) 97 (ai (ca 0) 200 (upd (g 5) (n 5) (nI i)))) 98 (ai (ca 0) 200 (upd (g 6) (n 5) (nI j)))) 90 (.inr (4, [.ref (ad 91), .ref (ad 94), .ref (ad 96), .ref (ad 97), .ref (ad 98), .ref (ad 99), .int (nI ((n 5) + 1))]))) 95 (ai (ca 0) 200 sv1_23)) 94 (.inr (3, [.ref (ad 95), .int (nI 44)]))) 93 (ai (ca 0) 64 w1_24)) 92 (ai (ca 0) 8 e1_25)) (100 + (n 5)) (ai (ca 0) 8 (rowD (prevD (fun i8 => g (1000 + i8)) (n 5)) (nI 3) (nI i) (nI j))) := eu
    have c_96 : f_21 96 = ai (ca 0) 200 (upd (g 4) (n 5) (nI 3)) := by rw [ef_21, va_up_ne _ _ (by omega), va_up_ne _ _ (by decide), va_up_ne _ _ (by decide), va_up_ne _ _ (by decide), va_up_ne _ _ (by decide), va_up_ne _ _ (by decide), va_up_ne _ _ (by decide), va_up_ne _ _ (by decide), va_up_self]
    have c_97 : f_21 97 = ai (ca 0) 200 (upd (g 5) (n 5) (nI i)) := by rw [ef_21, va_up_ne _ _ (by omega), va_up_ne _ _ (by decide), va_up_ne _ _ (by decide), va_up_ne _ _ (by decide), va_up_ne _ _ (by decide), va_up_ne _ _ (by decide), va_up_ne _ _ (by decide), va_up_self]
    have c_98 : f_21 98 = ai (ca 0) 200 (upd (g 6) (n 5) (nI j)) := by rw [ef_21, va_up_ne _ _ (by omega), va_up_ne _ _ (by decide), va_up_ne _ _ (by decide), va_up_ne _ _ (by decide), va_up_ne _ _ (by decide), va_up_ne _ _ (by decide), va_up_self]
    have c_90 : f_21 90 = .inr (4, [.ref (ad 91), .ref (ad 94), .ref (ad 96), .ref (ad 97), .ref (ad 98), .ref (ad 99), .int (nI ((n 5) + 1))]) := by rw [ef_21, va_up_ne _ _ (by omega), va_up_ne _ _ (by decide), va_up_ne _ _ (by decide), va_up_ne _ _ (by decide), va_up_ne _ _ (by decide), va_up_self]
    have c_95 : f_21 95 = ai (ca 0) 200 sv1_23 := by rw [ef_21, va_up_ne _ _ (by omega), va_up_ne _ _ (by decide), va_up_ne _ _ (by decide), va_up_ne _ _ (by decide), va_up_self]
    have c_94 : f_21 94 = .inr (3, [.ref (ad 95), .int (nI 44)]) := by rw [ef_21, va_up_ne _ _ (by omega), va_up_ne _ _ (by decide), va_up_ne _ _ (by decide), va_up_self]
    have c_93 : f_21 93 = ai (ca 0) 64 w1_24 := by rw [ef_21, va_up_ne _ _ (by omega), va_up_ne _ _ (by decide), va_up_self]
    have c_92 : f_21 92 = ai (ca 0) 8 e1_25 := by rw [ef_21, va_up_ne _ _ (by omega), va_up_self]
    have c_100_n_5 : f_21 (100 + (n 5)) = ai (ca 0) 8 (rowD (prevD (fun i8 => g (1000 + i8)) (n 5)) (nI 3) (nI i) (nI j)) := by rw [ef_21, va_up_self]
    refine lv_iload hx hb dX5_mend_95 (lv_at hl 0 rfl) ?_
    have c_0 : f_21 0 = .inr (6, [.int (nI (n 0)), .ref (ad 1), .ref (ad 4), .ref (ad 6), .ref (ad 8), .int (nI (n 1)), .ref (ad 9), .int (nI (n 2)), .ref (ad 90), .ref (ad 300), .ref (ad 301), .int (nI (n 3)), .int (g 13 0)]) := by rw [ef_21, va_up_ne _ _ (by omega), va_up_ne _ _ (by decide), va_up_ne _ _ (by decide), va_up_ne _ _ (by decide), va_up_ne _ _ (by decide), va_up_ne _ _ (by decide), va_up_ne _ _ (by decide), va_up_ne _ _ (by decide), va_up_ne _ _ (by decide)]; exact c_0
    have c_1 : f_21 1 = .inr (2, [.ref (ad 2), .ref (ad 3)]) := by rw [ef_21, va_up_ne _ _ (by omega), va_up_ne _ _ (by decide), va_up_ne _ _ (by decide), va_up_ne _ _ (by decide), va_up_ne _ _ (by decide), va_up_ne _ _ (by decide), va_up_ne _ _ (by decide), va_up_ne _ _ (by decide), va_up_ne _ _ (by decide), ef_20, va_up_ne _ _ (by omega), ef_17, va_up_ne _ _ (by omega), va_up_ne _ _ (by omega)]; exact c_1
    have c_2 : f_21 2 = ai (ca 0) 8 (z_13 0) := by rw [ef_21, va_up_ne _ _ (by omega), va_up_ne _ _ (by decide), va_up_ne _ _ (by decide), va_up_ne _ _ (by decide), va_up_ne _ _ (by decide), va_up_ne _ _ (by decide), va_up_ne _ _ (by decide), va_up_ne _ _ (by decide), va_up_ne _ _ (by decide), ef_20, va_up_ne _ _ (by omega), ef_17, va_up_ne _ _ (by omega), va_up_ne _ _ (by omega)]; exact c_2
    have c_3 : f_21 3 = ai (ca 0) 64 (z_13 1) := by rw [ef_21, va_up_ne _ _ (by omega), va_up_ne _ _ (by decide), va_up_ne _ _ (by decide), va_up_ne _ _ (by decide), va_up_ne _ _ (by decide), va_up_ne _ _ (by decide), va_up_ne _ _ (by decide), va_up_ne _ _ (by decide), va_up_ne _ _ (by decide), ef_20, va_up_ne _ _ (by omega), ef_17, va_up_ne _ _ (by omega), va_up_ne _ _ (by omega)]; exact c_3
    have c_4 : f_21 4 = .inr (5, [.ref (ad 5)]) := by rw [ef_21, va_up_ne _ _ (by omega), va_up_ne _ _ (by decide), va_up_ne _ _ (by decide), va_up_ne _ _ (by decide), va_up_ne _ _ (by decide), va_up_ne _ _ (by decide), va_up_ne _ _ (by decide), va_up_ne _ _ (by decide), va_up_ne _ _ (by decide), ef_20, va_up_ne _ _ (by omega), ef_17, va_up_ne _ _ (by omega), va_up_ne _ _ (by omega)]; exact c_4
    have c_5 : f_21 5 = ai (ca 0) 256 tb := by rw [ef_21, va_up_ne _ _ (by omega), va_up_ne _ _ (by decide), va_up_ne _ _ (by decide), va_up_ne _ _ (by decide), va_up_ne _ _ (by decide), va_up_ne _ _ (by decide), va_up_ne _ _ (by decide), va_up_ne _ _ (by decide), va_up_ne _ _ (by decide), ef_20, va_up_ne _ _ (by omega), ef_17, va_up_ne _ _ (by omega), va_up_ne _ _ (by omega)]; exact c_5
    have c_6 : f_21 6 = .inr (3, [.ref (ad 7), .int (nI (n 4))]) := by rw [ef_21, va_up_ne _ _ (by omega), va_up_ne _ _ (by decide), va_up_ne _ _ (by decide), va_up_ne _ _ (by decide), va_up_ne _ _ (by decide), va_up_ne _ _ (by decide), va_up_ne _ _ (by decide), va_up_ne _ _ (by decide), va_up_ne _ _ (by decide), ef_20, va_up_ne _ _ (by omega), ef_17, va_up_ne _ _ (by omega), va_up_ne _ _ (by omega)]; exact c_6
    have c_7 : f_21 7 = ai (ca 0) 200 (g 0) := by rw [ef_21, va_up_ne _ _ (by omega), va_up_ne _ _ (by decide), va_up_ne _ _ (by decide), va_up_ne _ _ (by decide), va_up_ne _ _ (by decide), va_up_ne _ _ (by decide), va_up_ne _ _ (by decide), va_up_ne _ _ (by decide), va_up_ne _ _ (by decide), ef_20, va_up_ne _ _ (by omega), ef_17, va_up_ne _ _ (by omega), va_up_ne _ _ (by omega)]; exact c_7
    have c_8 : f_21 8 = ai (ca 0) 8 (g 1) := by rw [ef_21, va_up_ne _ _ (by omega), va_up_ne _ _ (by decide), va_up_ne _ _ (by decide), va_up_ne _ _ (by decide), va_up_ne _ _ (by decide), va_up_ne _ _ (by decide), va_up_ne _ _ (by decide), va_up_ne _ _ (by decide), va_up_ne _ _ (by decide), ef_20, va_up_ne _ _ (by omega), ef_17, va_up_ne _ _ (by omega), va_up_ne _ _ (by omega)]; exact c_8
    have c_9 : f_21 9 = aq (ca 3) 20 (fun i => some (ad (10 + 4 * i))) := by rw [ef_21, va_up_ne _ _ (by omega), va_up_ne _ _ (by decide), va_up_ne _ _ (by decide), va_up_ne _ _ (by decide), va_up_ne _ _ (by decide), va_up_ne _ _ (by decide), va_up_ne _ _ (by decide), va_up_ne _ _ (by decide), va_up_ne _ _ (by decide), ef_20, va_up_ne _ _ (by omega), ef_17, va_up_ne _ _ (by omega), va_up_ne _ _ (by omega)]; exact c_9
    have c_91 : f_21 91 = .inr (2, [.ref (ad 92), .ref (ad 93)]) := by rw [ef_21, va_up_ne _ _ (by omega), va_up_ne _ _ (by decide), va_up_ne _ _ (by decide), va_up_ne _ _ (by decide), va_up_ne _ _ (by decide), va_up_ne _ _ (by decide), va_up_ne _ _ (by decide), va_up_ne _ _ (by decide), va_up_ne _ _ (by decide)]; exact c_91
    have c_99 : f_21 99 = aq (ca 4) 200 (fun i => some (ad (100 + i))) := by rw [ef_21, va_up_ne _ _ (by omega), va_up_ne _ _ (by decide), va_up_ne _ _ (by decide), va_up_ne _ _ (by decide), va_up_ne _ _ (by decide), va_up_ne _ _ (by decide), va_up_ne _ _ (by decide), va_up_ne _ _ (by decide), va_up_ne _ _ (by decide)]; exact c_99
    have c_300 : f_21 300 = ai (ca 0) 20 (g 2) := by rw [ef_21, va_up_ne _ _ (by omega), va_up_ne _ _ (by decide), va_up_ne _ _ (by decide), va_up_ne _ _ (by decide), va_up_ne _ _ (by decide), va_up_ne _ _ (by decide), va_up_ne _ _ (by decide), va_up_ne _ _ (by decide), va_up_ne _ _ (by decide), ef_20, va_up_ne _ _ (by omega), ef_17, va_up_ne _ _ (by omega), va_up_ne _ _ (by omega)]; exact c_300
    have c_301 : f_21 301 = ai (ca 2) 20 (g 3) := by rw [ef_21, va_up_ne _ _ (by omega), va_up_ne _ _ (by decide), va_up_ne _ _ (by decide), va_up_ne _ _ (by decide), va_up_ne _ _ (by decide), va_up_ne _ _ (by decide), va_up_ne _ _ (by decide), va_up_ne _ _ (by decide), va_up_ne _ _ (by decide), ef_20, va_up_ne _ _ (by omega), ef_17, va_up_ne _ _ (by omega), va_up_ne _ _ (by omega)]; exact c_301
    have c_10_4_i : f_21 (10 + 4 * i) = .inr (1, [.ref (ad (11 + 4 * i)), .ref (ad (13 + 4 * i)), .int (g 7 i), .int (g 8 i), .int (g 9 i), .int (g 10 i), .int (g 11 i), .int x_19]) := by rw [ef_21, va_up_ne _ _ (by omega), va_up_ne _ _ (by omega), va_up_ne _ _ (by omega), va_up_ne _ _ (by omega), va_up_ne _ _ (by omega), va_up_ne _ _ (by omega), va_up_ne _ _ (by omega), va_up_ne _ _ (by omega), va_up_ne _ _ (by omega)]; exact c_10_4_i
    have c_10_4_i : f_21 (10 + 4 * i) = .inr (1, [.ref (ad (11 + 4 * i)), .ref (ad (13 + 4 * i)), .int (g 7 i), .int (g 8 i), .int (g 9 i), .int (g 10 i), .int (g 11 i), .int ((g 12 i) + (nI 1))]) := by rw [c_10_4_i]; simp only [ex_19]
    have c_11_4_i : f_21 (11 + 4 * i) = .inr (3, [.ref (ad (12 + 4 * i)), .int (nI (n (10 + b)))]) := by rw [ef_21, va_up_ne _ _ (by omega), va_up_ne _ _ (by omega), va_up_ne _ _ (by omega), va_up_ne _ _ (by omega), va_up_ne _ _ (by omega), va_up_ne _ _ (by omega), va_up_ne _ _ (by omega), va_up_ne _ _ (by omega), va_up_ne _ _ (by omega), ef_20, va_up_ne _ _ (by omega)]; exact c_11_4_i
    have c_12_4_i : f_21 (12 + 4 * i) = ai (ca 0) 200 (cpyTo (g (100 + i)) (g (100 + b)) (n (10 + b))) := by rw [ef_21, va_up_ne _ _ (by omega), va_up_ne _ _ (by omega), va_up_ne _ _ (by omega), va_up_ne _ _ (by omega), va_up_ne _ _ (by omega), va_up_ne _ _ (by omega), va_up_ne _ _ (by omega), va_up_ne _ _ (by omega), va_up_ne _ _ (by omega), ef_20, va_up_ne _ _ (by omega)]; exact c_12_4_i
    have qn_0 : (va_up (va_up n 5 ((n 5) + 1)) (10 + i) (n (10 + b))) 0 = n 0 := by rw [va_up_ne _ _ (by omega), va_up_ne _ _ (by decide)]
    have qn_1 : (va_up (va_up n 5 ((n 5) + 1)) (10 + i) (n (10 + b))) 1 = n 1 := by rw [va_up_ne _ _ (by omega), va_up_ne _ _ (by decide)]
    have qn_2 : (va_up (va_up n 5 ((n 5) + 1)) (10 + i) (n (10 + b))) 2 = n 2 := by rw [va_up_ne _ _ (by omega), va_up_ne _ _ (by decide)]
    have qn_3 : (va_up (va_up n 5 ((n 5) + 1)) (10 + i) (n (10 + b))) 3 = n 3 := by rw [va_up_ne _ _ (by omega), va_up_ne _ _ (by decide)]
    have qn_4 : (va_up (va_up n 5 ((n 5) + 1)) (10 + i) (n (10 + b))) 4 = n 4 := by rw [va_up_ne _ _ (by omega), va_up_ne _ _ (by decide)]
    have qn_5 : (va_up (va_up n 5 ((n 5) + 1)) (10 + i) (n (10 + b))) 5 = (n 5) + 1 := by rw [va_up_ne _ _ (by omega), va_up_self]
    have qg_0 : (va_up (va_up (va_up (va_up (va_up (va_up g 4 (upd (g 4) (n 5) (nI 3))) 5 (upd (g 5) (n 5) (nI i))) 6 (upd (g 6) (n 5) (nI j))) 12 (upd (g 12) i ((g 12 i) + (nI 1)))) (100 + i) (cpyTo (g (100 + i)) (g (100 + b)) (n (10 + b)))) (1000 + (n 5)) (rowD (prevD (fun i8 => g (1000 + i8)) (n 5)) (nI 3) (nI i) (nI j))) 0 = g 0 := by rw [va_up_ne _ _ (by omega), va_up_ne _ _ (by omega), va_up_ne _ _ (by decide), va_up_ne _ _ (by decide), va_up_ne _ _ (by decide), va_up_ne _ _ (by decide)]
    have qg_1 : (va_up (va_up (va_up (va_up (va_up (va_up g 4 (upd (g 4) (n 5) (nI 3))) 5 (upd (g 5) (n 5) (nI i))) 6 (upd (g 6) (n 5) (nI j))) 12 (upd (g 12) i ((g 12 i) + (nI 1)))) (100 + i) (cpyTo (g (100 + i)) (g (100 + b)) (n (10 + b)))) (1000 + (n 5)) (rowD (prevD (fun i8 => g (1000 + i8)) (n 5)) (nI 3) (nI i) (nI j))) 1 = g 1 := by rw [va_up_ne _ _ (by omega), va_up_ne _ _ (by omega), va_up_ne _ _ (by decide), va_up_ne _ _ (by decide), va_up_ne _ _ (by decide), va_up_ne _ _ (by decide)]
    have qg_2 : (va_up (va_up (va_up (va_up (va_up (va_up g 4 (upd (g 4) (n 5) (nI 3))) 5 (upd (g 5) (n 5) (nI i))) 6 (upd (g 6) (n 5) (nI j))) 12 (upd (g 12) i ((g 12 i) + (nI 1)))) (100 + i) (cpyTo (g (100 + i)) (g (100 + b)) (n (10 + b)))) (1000 + (n 5)) (rowD (prevD (fun i8 => g (1000 + i8)) (n 5)) (nI 3) (nI i) (nI j))) 2 = g 2 := by rw [va_up_ne _ _ (by omega), va_up_ne _ _ (by omega), va_up_ne _ _ (by decide), va_up_ne _ _ (by decide), va_up_ne _ _ (by decide), va_up_ne _ _ (by decide)]
    have qg_3 : (va_up (va_up (va_up (va_up (va_up (va_up g 4 (upd (g 4) (n 5) (nI 3))) 5 (upd (g 5) (n 5) (nI i))) 6 (upd (g 6) (n 5) (nI j))) 12 (upd (g 12) i ((g 12 i) + (nI 1)))) (100 + i) (cpyTo (g (100 + i)) (g (100 + b)) (n (10 + b)))) (1000 + (n 5)) (rowD (prevD (fun i8 => g (1000 + i8)) (n 5)) (nI 3) (nI i) (nI j))) 3 = g 3 := by rw [va_up_ne _ _ (by omega), va_up_ne _ _ (by omega), va_up_ne _ _ (by decide), va_up_ne _ _ (by decide), va_up_ne _ _ (by decide), va_up_ne _ _ (by decide)]
    have qg_4 : (va_up (va_up (va_up (va_up (va_up (va_up g 4 (upd (g 4) (n 5) (nI 3))) 5 (upd (g 5) (n 5) (nI i))) 6 (upd (g 6) (n 5) (nI j))) 12 (upd (g 12) i ((g 12 i) + (nI 1)))) (100 + i) (cpyTo (g (100 + i)) (g (100 + b)) (n (10 + b)))) (1000 + (n 5)) (rowD (prevD (fun i8 => g (1000 + i8)) (n 5)) (nI 3) (nI i) (nI j))) 4 = upd (g 4) (n 5) (nI 3) := by rw [va_up_ne _ _ (by omega), va_up_ne _ _ (by omega), va_up_ne _ _ (by decide), va_up_ne _ _ (by decide), va_up_ne _ _ (by decide), va_up_self]
    have qg_5 : (va_up (va_up (va_up (va_up (va_up (va_up g 4 (upd (g 4) (n 5) (nI 3))) 5 (upd (g 5) (n 5) (nI i))) 6 (upd (g 6) (n 5) (nI j))) 12 (upd (g 12) i ((g 12 i) + (nI 1)))) (100 + i) (cpyTo (g (100 + i)) (g (100 + b)) (n (10 + b)))) (1000 + (n 5)) (rowD (prevD (fun i8 => g (1000 + i8)) (n 5)) (nI 3) (nI i) (nI j))) 5 = upd (g 5) (n 5) (nI i) := by rw [va_up_ne _ _ (by omega), va_up_ne _ _ (by omega), va_up_ne _ _ (by decide), va_up_ne _ _ (by decide), va_up_self]
    have qg_6 : (va_up (va_up (va_up (va_up (va_up (va_up g 4 (upd (g 4) (n 5) (nI 3))) 5 (upd (g 5) (n 5) (nI i))) 6 (upd (g 6) (n 5) (nI j))) 12 (upd (g 12) i ((g 12 i) + (nI 1)))) (100 + i) (cpyTo (g (100 + i)) (g (100 + b)) (n (10 + b)))) (1000 + (n 5)) (rowD (prevD (fun i8 => g (1000 + i8)) (n 5)) (nI 3) (nI i) (nI j))) 6 = upd (g 6) (n 5) (nI j) := by rw [va_up_ne _ _ (by omega), va_up_ne _ _ (by omega), va_up_ne _ _ (by decide), va_up_self]
    have qg_7 : (va_up (va_up (va_up (va_up (va_up (va_up g 4 (upd (g 4) (n 5) (nI 3))) 5 (upd (g 5) (n 5) (nI i))) 6 (upd (g 6) (n 5) (nI j))) 12 (upd (g 12) i ((g 12 i) + (nI 1)))) (100 + i) (cpyTo (g (100 + i)) (g (100 + b)) (n (10 + b)))) (1000 + (n 5)) (rowD (prevD (fun i8 => g (1000 + i8)) (n 5)) (nI 3) (nI i) (nI j))) 7 = g 7 := by rw [va_up_ne _ _ (by omega), va_up_ne _ _ (by omega), va_up_ne _ _ (by decide), va_up_ne _ _ (by decide), va_up_ne _ _ (by decide), va_up_ne _ _ (by decide)]
    have qg_8 : (va_up (va_up (va_up (va_up (va_up (va_up g 4 (upd (g 4) (n 5) (nI 3))) 5 (upd (g 5) (n 5) (nI i))) 6 (upd (g 6) (n 5) (nI j))) 12 (upd (g 12) i ((g 12 i) + (nI 1)))) (100 + i) (cpyTo (g (100 + i)) (g (100 + b)) (n (10 + b)))) (1000 + (n 5)) (rowD (prevD (fun i8 => g (1000 + i8)) (n 5)) (nI 3) (nI i) (nI j))) 8 = g 8 := by rw [va_up_ne _ _ (by omega), va_up_ne _ _ (by omega), va_up_ne _ _ (by decide), va_up_ne _ _ (by decide), va_up_ne _ _ (by decide), va_up_ne _ _ (by decide)]
    have qg_9 : (va_up (va_up (va_up (va_up (va_up (va_up g 4 (upd (g 4) (n 5) (nI 3))) 5 (upd (g 5) (n 5) (nI i))) 6 (upd (g 6) (n 5) (nI j))) 12 (upd (g 12) i ((g 12 i) + (nI 1)))) (100 + i) (cpyTo (g (100 + i)) (g (100 + b)) (n (10 + b)))) (1000 + (n 5)) (rowD (prevD (fun i8 => g (1000 + i8)) (n 5)) (nI 3) (nI i) (nI j))) 9 = g 9 := by rw [va_up_ne _ _ (by omega), va_up_ne _ _ (by omega), va_up_ne _ _ (by decide), va_up_ne _ _ (by decide), va_up_ne _ _ (by decide), va_up_ne _ _ (by decide)]
    have qg_10 : (va_up (va_up (va_up (va_up (va_up (va_up g 4 (upd (g 4) (n 5) (nI 3))) 5 (upd (g 5) (n 5) (nI i))) 6 (upd (g 6) (n 5) (nI j))) 12 (upd (g 12) i ((g 12 i) + (nI 1)))) (100 + i) (cpyTo (g (100 + i)) (g (100 + b)) (n (10 + b)))) (1000 + (n 5)) (rowD (prevD (fun i8 => g (1000 + i8)) (n 5)) (nI 3) (nI i) (nI j))) 10 = g 10 := by rw [va_up_ne _ _ (by omega), va_up_ne _ _ (by omega), va_up_ne _ _ (by decide), va_up_ne _ _ (by decide), va_up_ne _ _ (by decide), va_up_ne _ _ (by decide)]
    have qg_11 : (va_up (va_up (va_up (va_up (va_up (va_up g 4 (upd (g 4) (n 5) (nI 3))) 5 (upd (g 5) (n 5) (nI i))) 6 (upd (g 6) (n 5) (nI j))) 12 (upd (g 12) i ((g 12 i) + (nI 1)))) (100 + i) (cpyTo (g (100 + i)) (g (100 + b)) (n (10 + b)))) (1000 + (n 5)) (rowD (prevD (fun i8 => g (1000 + i8)) (n 5)) (nI 3) (nI i) (nI j))) 11 = g 11 := by rw [va_up_ne _ _ (by omega), va_up_ne _ _ (by omega), va_up_ne _ _ (by decide), va_up_ne _ _ (by decide), va_up_ne _ _ (by decide), va_up_ne _ _ (by decide)]
    have qg_12 : (va_up (va_up (va_up (va_up (va_up (va_up g 4 (upd (g 4) (n 5) (nI 3))) 5 (upd (g 5) (n 5) (nI i))) 6 (upd (g 6) (n 5) (nI j))) 12 (upd (g 12) i ((g 12 i) + (nI 1)))) (100 + i) (cpyTo (g (100 + i)) (g (100 + b)) (n (10 + b)))) (1000 + (n 5)) (rowD (prevD (fun i8 => g (1000 + i8)) (n 5)) (nI 3) (nI i) (nI j))) 12 = upd (g 12) i ((g 12 i) + (nI 1)) := by rw [va_up_ne _ _ (by omega), va_up_ne _ _ (by omega), va_up_self]
    have qg_13 : (va_up (va_up (va_up (va_up (va_up (va_up g 4 (upd (g 4) (n 5) (nI 3))) 5 (upd (g 5) (n 5) (nI i))) 6 (upd (g 6) (n 5) (nI j))) 12 (upd (g 12) i ((g 12 i) + (nI 1)))) (100 + i) (cpyTo (g (100 + i)) (g (100 + b)) (n (10 + b)))) (1000 + (n 5)) (rowD (prevD (fun i8 => g (1000 + i8)) (n 5)) (nI 3) (nI i) (nI j))) 13 = g 13 := by rw [va_up_ne _ _ (by omega), va_up_ne _ _ (by omega), va_up_ne _ _ (by decide), va_up_ne _ _ (by decide), va_up_ne _ _ (by decide), va_up_ne _ _ (by decide)]
    have qz_0 : (va_up (va_up (va_up z_13 2 e1_25) 3 w1_24) 4 sv1_23) 0 = z_13 0 := by rw [va_up_ne _ _ (by decide), va_up_ne _ _ (by decide), va_up_ne _ _ (by decide)]
    have qz_1 : (va_up (va_up (va_up z_13 2 e1_25) 3 w1_24) 4 sv1_23) 1 = z_13 1 := by rw [va_up_ne _ _ (by decide), va_up_ne _ _ (by decide), va_up_ne _ _ (by decide)]
    have qz_2 : (va_up (va_up (va_up z_13 2 e1_25) 3 w1_24) 4 sv1_23) 2 = e1_25 := by rw [va_up_ne _ _ (by decide), va_up_ne _ _ (by decide), va_up_self]
    have qz_3 : (va_up (va_up (va_up z_13 2 e1_25) 3 w1_24) 4 sv1_23) 3 = w1_24 := by rw [va_up_ne _ _ (by decide), va_up_self]
    have qz_4 : (va_up (va_up (va_up z_13 2 e1_25) 3 w1_24) 4 sv1_23) 4 = sv1_23 := by rw [va_up_self]
    have hRz : RepX ca ad (va_up (va_up n 5 ((n 5) + 1)) (10 + i) (n (10 + b))) (va_up (va_up (va_up (va_up (va_up (va_up g 4 (upd (g 4) (n 5) (nI 3))) 5 (upd (g 5) (n 5) (nI i))) 6 (upd (g 6) (n 5) (nI j))) 12 (upd (g 12) i ((g 12 i) + (nI 1)))) (100 + i) (cpyTo (g (100 + i)) (g (100 + b)) (n (10 + b)))) (1000 + (n 5)) (rowD (prevD (fun i8 => g (1000 + i8)) (n 5)) (nI 3) (nI i) (nI j))) (va_up (va_up (va_up z_13 2 e1_25) 3 w1_24) 4 sv1_23) 44 tb f_21 := ⟨(by rw [qn_0, qn_1, qn_2, qn_3, qg_13]; exact c_0),
          c_1,
          (by rw [qz_0]; exact c_2),
          (by rw [qz_1]; exact c_3),
          c_4,
          c_5,
          (by rw [qn_4]; exact c_6),
          (by rw [qg_0]; exact c_7),
          (by rw [qg_1]; exact c_8),
          c_9,
          (by rw [qn_5]; exact c_90),
          c_91,
          (by rw [qz_2]; exact c_92),
          (by rw [qz_3]; exact c_93),
          c_94,
          (by rw [qz_4]; exact c_95),
          (by rw [qg_4]; exact c_96),
          (by rw [qg_5]; exact c_97),
          (by rw [qg_6]; exact c_98),
          c_99,
          (by rw [qg_2]; exact c_300),
          (by rw [qg_3]; exact c_301),
          (fun i9 hi9 => by
          by_cases ei : i9 = i
          · rw [ei]; simp only [qg_7, qg_8, qg_9, qg_10, qg_11, qg_12, pk_us]; exact c_10_4_i
          · simp only [qg_7, qg_8, qg_9, qg_10, qg_11, qg_12, pk_un ei]; rw [ef_21, va_up_ne _ _ (by omega), va_up_ne _ _ (by omega), va_up_ne _ _ (by omega), va_up_ne _ _ (by omega), va_up_ne _ _ (by omega), va_up_ne _ _ (by omega), va_up_ne _ _ (by omega), va_up_ne _ _ (by omega), va_up_ne _ _ (by omega), ef_20, va_up_ne _ _ (by omega), ef_17, va_up_ne _ _ (by omega), va_up_ne _ _ (by omega)]; exact F_kf i9 hi9),
          (fun i9 hi9 => by
          by_cases ei : i9 = i
          · rw [ei, va_up_self]; exact c_11_4_i
          · rw [va_up_ne _ _ (by omega), va_up_ne _ _ (by omega)]; rw [ef_21, va_up_ne _ _ (by omega), va_up_ne _ _ (by omega), va_up_ne _ _ (by omega), va_up_ne _ _ (by omega), va_up_ne _ _ (by omega), va_up_ne _ _ (by omega), va_up_ne _ _ (by omega), va_up_ne _ _ (by omega), va_up_ne _ _ (by omega), ef_20, va_up_ne _ _ (by omega), ef_17, va_up_ne _ _ (by omega), va_up_ne _ _ (by omega)]; exact F_oc i9 hi9),
          (fun i9 hi9 => by
          by_cases ei : i9 = i
          · rw [ei, va_up_ne _ _ (by omega), va_up_self]; exact c_12_4_i
          · rw [va_up_ne _ _ (by omega), va_up_ne _ _ (by omega), va_up_ne _ _ (by omega), va_up_ne _ _ (by omega), va_up_ne _ _ (by omega), va_up_ne _ _ (by omega)]; rw [ef_21, va_up_ne _ _ (by omega), va_up_ne _ _ (by omega), va_up_ne _ _ (by omega), va_up_ne _ _ (by omega), va_up_ne _ _ (by omega), va_up_ne _ _ (by omega), va_up_ne _ _ (by omega), va_up_ne _ _ (by omega), va_up_ne _ _ (by omega), ef_20, va_up_ne _ _ (by omega), ef_17, va_up_ne _ _ (by omega), va_up_ne _ _ (by omega)]; exact F_va i9 hi9),
          (fun i9 hi9 => by rw [va_up_ne _ _ (by omega), va_up_ne _ _ (by omega), va_up_ne _ _ (by omega), va_up_ne _ _ (by omega), va_up_ne _ _ (by omega), va_up_ne _ _ (by omega)]; rw [ef_21, va_up_ne _ _ (by omega), va_up_ne _ _ (by omega), va_up_ne _ _ (by omega), va_up_ne _ _ (by omega), va_up_ne _ _ (by omega), va_up_ne _ _ (by omega), va_up_ne _ _ (by omega), va_up_ne _ _ (by omega), va_up_ne _ _ (by omega), ef_20, va_up_ne _ _ (by omega), ef_17, va_up_ne _ _ (by omega), va_up_ne _ _ (by omega)]; exact F_lw i9 hi9),
          (fun i9 hi9 => by
          by_cases ei : i9 = n 5
          · rw [ei, va_up_self]; exact c_100_n_5
          · rw [va_up_ne _ _ (by omega), va_up_ne _ _ (by omega), va_up_ne _ _ (by omega), va_up_ne _ _ (by omega), va_up_ne _ _ (by omega), va_up_ne _ _ (by omega)]; rw [ef_21, va_up_ne _ _ (by omega), va_up_ne _ _ (by omega), va_up_ne _ _ (by omega), va_up_ne _ _ (by omega), va_up_ne _ _ (by omega), va_up_ne _ _ (by omega), va_up_ne _ _ (by omega), va_up_ne _ _ (by omega), va_up_ne _ _ (by omega), ef_20, va_up_ne _ _ (by omega), ef_17, va_up_ne _ _ (by omega), va_up_ne _ _ (by omega)]; exact F_M i9 hi9), (by first | omega | assumption), hT⟩
    exact x_iret hx hb hr hlocks hw ⟨rfl, va_up (va_up (va_up z_13 2 e1_25) 3 w1_24) 4 sv1_23, 44, hRz, (fun y hy => by rw [ef_21, va_up_ne _ _ (by omega), va_up_ne _ _ (by omega), va_up_ne _ _ (by omega), va_up_ne _ _ (by omega), va_up_ne _ _ (by omega), va_up_ne _ _ (by omega), va_up_ne _ _ (by omega), va_up_ne _ _ (by omega), va_up_ne _ _ (by omega), ef_20, va_up_ne _ _ (by omega), ef_17, va_up_ne _ _ (by omega), va_up_ne _ _ (by omega)]; exact hfr y hy)⟩ dX5_mend_97
  · exact absurd hc_52 (fun q => absurd (q ▸ nI_pos (show b < 2 ^ 31 by omega)) (by decide))

set_option maxHeartbeats 4000000 in
set_option maxRecDepth 100000 in
theorem k_X5_mend_inF (l : Launch) (D : va_G) (ca : Nat → ClassId) (N : Nat) (ad : Nat → Nat) (B tR tK : Nat) (f : Nat → va_E) (dd : xD N ad B) (hN : 302 ≤ N) (n : Nat → Nat) (g : Nat → Nat → Int32) (z : Nat → Nat → Int32) (zn : Nat) (tb : Nat → Int32) (hR : RepX ca ad n g z zn tb f) (i : Nat) (j : Nat) (b : Nat) (h2 : n 2 ≤ 20) (hi : i < n 2) (hj : j ≤ 1000000) (hsz : ∀ i, i < 20 → n (10 + i) ≤ 200) (hf : ¬ fitsX n g i i) (hb9 : b < n 2) (hib : i ≠ b) (hyes : fitsX n g b b ∧ fitsX n g b i) (hno : ∀ q, q < b → ¬ (fitsX n g q q ∧ fitsX n g q i)) (h5 : n 5 = 200) : xMi l yX5_mend wsX5_mend rmX5_mend [.ref (ad 0), .int (nI i), .int (nI j)] D ca N ad B tR tK f (fun r u => nI b = r ∧ ∃ (z1 : Nat → Nat → Int32) (zn1 : Nat), RepX ca ad (va_up n (10 + i) (n (10 + b))) (va_up (va_up g 12 (upd (g 12) i ((g 12 i) + (nI 1)))) (100 + i) (cpyTo (g (100 + i)) (g (100 + b)) (n (10 + b)))) z1 zn1 tb u ∧ ∀ y, 302 ≤ y → u y = f y) := by
  refine x_open (cc := cX5_mend) (maxL := 5) (ret := (some .int)) (by decide) rfl (Nat.le_of_ble_eq_true rfl) ?_
  intro p e s m below meth c ls hx hb hml hown hts hr hlocks hnm hB hK hE hw hl
  have hown : s.vm.findClass RX5 = some m.cls := hown
  have hl : lv_has ls 5 [(0, .ref (ad 0)), (1, .int (nI i)), (2, .int (nI j))] := hl
  obtain ⟨c_0, c_1, c_2, c_3, c_4, c_5, c_6, c_7, c_8, c_9, c_90, c_91, c_92, c_93, c_94, c_95, c_96, c_97, c_98, c_99, c_300, c_301, F_kf, F_oc, F_va, F_lw, F_M, hzn, hT⟩ := hR
  have hin_6 : ∀ w ∈ u_ws RX5 TX5 13, w ∈ wsX5_mend := by decide +kernel
  have hf_49 := hts (.fieldLink RX5 49 "FixityRows" "files" "[LFixityRows$KeptFile;") (by decide +kernel)
  have hin_1 : ∀ w ∈ u_ws RX0 TX0 8, w ∈ wsX5_mend := by decide +kernel
  have hf_57 := hts (.fieldLink RX5 57 "FixityRows" "rows" "LFixityRows$RowChain;") (by decide +kernel)
  have b_0 := c_0
  have b_1 := c_1
  have b_2 := c_2
  have b_3 := c_3
  have b_4 := c_4
  have b_5 := c_5
  have b_6 := c_6
  have b_7 := c_7
  have b_8 := c_8
  have b_9 := c_9
  have b_90 := c_90
  have b_91 := c_91
  have b_92 := c_92
  have b_93 := c_93
  have b_94 := c_94
  have b_95 := c_95
  have b_96 := c_96
  have b_97 := c_97
  have b_98 := c_98
  have b_99 := c_99
  have b_300 := c_300
  have b_301 := c_301
  refine lv_aload_n hx hb dX5_mend_0 rfl (lv_at hl 0 rfl) ?_
  refine lv_iload_n hx hb dX5_mend_1 rfl (lv_at hl 1 rfl) ?_
  have hRk : RepX ca ad n g z zn tb f := ⟨c_0,
        c_1,
        c_2,
        c_3,
        c_4,
        c_5,
        c_6,
        c_7,
        c_8,
        c_9,
        c_90,
        c_91,
        c_92,
        c_93,
        c_94,
        c_95,
        c_96,
        c_97,
        c_98,
        c_99,
        c_300,
        c_301,
        (fun i9 hi9 => by exact F_kf i9 hi9),
        (fun i9 hi9 => by exact F_oc i9 hi9),
        (fun i9 hi9 => by exact F_va i9 hi9),
        (fun i9 hi9 => by exact F_lw i9 hi9),
        (fun i9 hi9 => by exact F_M i9 hi9), hzn, hT⟩
  have hfr : ∀ y, 302 ≤ y → f y = f y := (fun _ _ => rfl)
  refine x_Vi (q := 0) (As := [.int (nI i)]) (rest := []) ⟨hx, hb, hml, hown, hts⟩ (k_X5_isFile_yes l D ca N ad B tR tK f dd hN n g z zn tb hRk i (by omega) (by omega)) (cwV 1 hts gX5_mend_X5_isFile rfl rfl rfl (by decide +kernel) ⟨Nat.le_of_ble_eq_true rfl, Nat.le_of_ble_eq_true rfl⟩) hK hE hB hw (by omega) c_0 rfl rfl rfl rfl hl.1 (Nat.le_of_ble_eq_true rfl) ⟨Nat.zero_le _, Nat.zero_le _⟩ dX5_mend_2 (fun r_2 f_1 H locs hp hw => ?_)
  obtain ⟨er, hp⟩ := hp
  rw [← er]
  rw [← hp] at hw
  refine lv_if_ne (tgt := 10) hx hb dX5_mend_5 (by decide) (fun _ => ?_) (fun h => absurd h (by decide))
  refine lv_iload_n hx hb dX5_mend_10 rfl (lv_at hl 2 rfl) ?_
  refine x_Si (As := [.int (nI j)]) (rest := []) ⟨hx, hb, hml, hown, hts⟩ (k_X5_isDay_yes l D ca N ad B tR tK f dd j   (by omega)) (va_cwS 1 hts gX5_mend_X5_isDay rfl rfl rfl (by decide +kernel) ⟨Nat.le_of_ble_eq_true rfl, Nat.le_of_ble_eq_true rfl⟩) hK hE hB hw rfl rfl hl.1 (Nat.le_of_ble_eq_true rfl) ⟨Nat.zero_le _, Nat.zero_le _⟩ dX5_mend_11 (fun r_4 f_3 H locs hp hw => ?_)
  obtain ⟨er, eu⟩ := hp
  rw [← er]
  rw [← eu] at hw
  refine lv_if_ne (tgt := 20) hx hb dX5_mend_14 (by decide) (fun _ => ?_) (fun h => absurd h (by decide))
  refine lv_aload_n hx hb dX5_mend_20 rfl (lv_at hl 0 rfl) ?_
  refine x_get (ci := 6) (C := RX5) (T := TX5) (n := 13) (ref := RX5) hx hb hts hin_6 hown hK hw 0 (by omega) c_0 rfl 6 (by decide) hf_49 (fun _ h => h) rfl dX5_mend_21 ?_
  refine lv_iload_n hx hb dX5_mend_24 rfl (lv_at hl 1 rfl) ?_
  refine x_aald (j := i) (a := ad (10 + 4 * i)) hx hb hK hw 9 3 (by omega) c_9 rfl rfl (by omega) (by decide) rfl dX5_mend_25 ?_
  refine lv_astore_n (lv' := [(3, .ref (ad (10 + 4 * i))), (0, .ref (ad 0)), (1, .int (nI i)), (2, .int (nI j))]) hx hb dX5_mend_26 rfl hl (by decide) rfl (fun ls hl => ?_)
  refine lv_aload_n hx hb dX5_mend_27 rfl (lv_at hl 1 rfl) ?_
  refine lv_aload_n hx hb dX5_mend_28 rfl (lv_at hl 0 rfl) ?_
  have c_10_4_i : f (10 + 4 * i) = .inr (1, [.ref (ad (11 + 4 * i)), .ref (ad (13 + 4 * i)), .int (g 7 i), .int (g 8 i), .int (g 9 i), .int (g 10 i), .int (g 11 i), .int (g 12 i)]) := (F_kf i (by omega))
  refine x_getN (ci := 1) (C := RX0) (T := TX0) (n := 8) (ref := RX0) hx hb hts hin_1 hown hK hw (10 + 4 * i) (by omega) c_10_4_i rfl 0 (by decide) (hE.1 (103, "octets", "LFixityRows$Octets;") (by decide)) (fun _ h => h) rfl dX5_mend_29 ?_
  refine lv_aload_n hx hb dX5_mend_32 rfl (lv_at hl 0 rfl) ?_
  have hRk : RepX ca ad n g z zn tb f := ⟨c_0,
        c_1,
        c_2,
        c_3,
        c_4,
        c_5,
        c_6,
        c_7,
        c_8,
        c_9,
        c_90,
        c_91,
        c_92,
        c_93,
        c_94,
        c_95,
        c_96,
        c_97,
        c_98,
        c_99,
        c_300,
        c_301,
        (fun i9 hi9 => by exact F_kf i9 hi9),
        (fun i9 hi9 => by exact F_oc i9 hi9),
        (fun i9 hi9 => by exact F_va i9 hi9),
        (fun i9 hi9 => by exact F_lw i9 hi9),
        (fun i9 hi9 => by exact F_M i9 hi9), hzn, hT⟩
  have hfr : ∀ y, 302 ≤ y → f y = f y := (fun _ _ => rfl)
  refine x_Vi (q := 0) (As := [.ref (ad (11 + 4 * i)), .ref (ad (10 + 4 * i))]) (rest := []) ⟨hx, hb, hml, hown, hts⟩ (k_X5_matches_no l D ca N ad B tR tK f dd hN n g z zn tb hRk i i (by omega) (by omega) hsz hf) (cwV 2 hts gX5_mend_X5_matches rfl rfl rfl (by decide +kernel) ⟨Nat.le_of_ble_eq_true rfl, Nat.le_of_ble_eq_true rfl⟩) hK hE hB hw (by omega) c_0 rfl rfl rfl rfl hl.1 (Nat.le_of_ble_eq_true rfl) ⟨Nat.zero_le _, Nat.zero_le _⟩ dX5_mend_33 (fun r_6 f_5 H locs hp hw => ?_)
  obtain ⟨er, hp⟩ := hp
  rw [← er]
  obtain ⟨z_7, zn_8, hR2, hfr2⟩ := hp
  have hfr : ∀ y, 302 ≤ y → f_5 y = f y := fun y hy => (hfr2 y hy).trans (hfr y hy)
  obtain ⟨c_0, c_1, c_2, c_3, c_4, c_5, c_6, c_7, c_8, c_9, c_90, c_91, c_92, c_93, c_94, c_95, c_96, c_97, c_98, c_99, c_300, c_301, F_kf, F_oc, F_va, F_lw, F_M, hzn, hT⟩ := hR2
  refine lv_if_eq (tgt := 42) hx hb dX5_mend_36 (by decide) (fun _ => ?_) (fun h => False.elim (h (by decide)))
  refine lv_aload_n hx hb dX5_mend_42 rfl (lv_at hl 1 rfl) ?_
  refine lv_aload_n hx hb dX5_mend_43 rfl (lv_at hl 0 rfl) ?_
  have hRk : RepX ca ad n g z_7 zn_8 tb f_5 := ⟨c_0,
        c_1,
        c_2,
        c_3,
        c_4,
        c_5,
        c_6,
        c_7,
        c_8,
        c_9,
        c_90,
        c_91,
        c_92,
        c_93,
        c_94,
        c_95,
        c_96,
        c_97,
        c_98,
        c_99,
        c_300,
        c_301,
        (fun i9 hi9 => by exact F_kf i9 hi9),
        (fun i9 hi9 => by exact F_oc i9 hi9),
        (fun i9 hi9 => by exact F_va i9 hi9),
        (fun i9 hi9 => by exact F_lw i9 hi9),
        (fun i9 hi9 => by exact F_M i9 hi9), hzn, hT⟩
  have hfr : ∀ y, 302 ≤ y → f_5 y = f y := (fun y hy => hfr y hy)
  refine x_Vi (q := 0) (As := [.ref (ad (10 + 4 * i))]) (rest := []) ⟨hx, hb, hml, hown, hts⟩ (k_X5_firstCopyFor_some l D ca N ad B tR tK f_5 dd hN n g z_7 zn_8 tb hRk i b (by omega) hsz (by omega) (by omega) hyes hno) (cwV 1 hts gX5_mend_X5_firstCopyFor rfl rfl rfl (by decide +kernel) ⟨Nat.le_of_ble_eq_true rfl, Nat.le_of_ble_eq_true rfl⟩) hK hE hB hw (by omega) c_0 rfl rfl rfl rfl hl.1 (Nat.le_of_ble_eq_true rfl) ⟨Nat.zero_le _, Nat.zero_le _⟩ dX5_mend_44 (fun r_12 f_11 H locs hp hw => ?_)
  obtain ⟨er, hp⟩ := hp
  rw [← er]
  obtain ⟨z_13, zn_14, hR2, hfr2⟩ := hp
  have hfr : ∀ y, 302 ≤ y → f_11 y = f y := fun y hy => (hfr2 y hy).trans (hfr y hy)
  obtain ⟨c_0, c_1, c_2, c_3, c_4, c_5, c_6, c_7, c_8, c_9, c_90, c_91, c_92, c_93, c_94, c_95, c_96, c_97, c_98, c_99, c_300, c_301, F_kf, F_oc, F_va, F_lw, F_M, hzn, hT⟩ := hR2
  refine lv_istore (lv' := [(4, .int (nI b)), (3, .ref (ad (10 + 4 * i))), (0, .ref (ad 0)), (1, .int (nI i)), (2, .int (nI j))]) hx hb dX5_mend_47 hl (by decide) rfl (fun ls hl => ?_)
  refine lv_iload hx hb dX5_mend_49 (lv_at hl 0 rfl) ?_
  refine lv_iconst (v := (-1)) hx hb dX5_mend_51 (by decide) ?_
  refine lv_icmp_ne (tgt := 58) hx hb dX5_mend_52 (by decide) (fun hc_52 => ?_) (fun hc_52 => ?_)
  · refine lv_aload_n hx hb dX5_mend_58 rfl (lv_at hl 1 rfl) ?_
    have c_10_4_i : f_11 (10 + 4 * i) = .inr (1, [.ref (ad (11 + 4 * i)), .ref (ad (13 + 4 * i)), .int (g 7 i), .int (g 8 i), .int (g 9 i), .int (g 10 i), .int (g 11 i), .int (g 12 i)]) := (F_kf i (by omega))
    refine x_getN (ci := 1) (C := RX0) (T := TX0) (n := 8) (ref := RX0) hx hb hts hin_1 hown hK hw (10 + 4 * i) (by omega) c_10_4_i rfl 0 (by decide) (hE.1 (103, "octets", "LFixityRows$Octets;") (by decide)) (fun _ h => h) rfl dX5_mend_59 ?_
    refine lv_aload_n hx hb dX5_mend_62 rfl (lv_at hl 2 rfl) ?_
    refine x_get (ci := 6) (C := RX5) (T := TX5) (n := 13) (ref := RX5) hx hb hts hin_6 hown hK hw 0 (by omega) c_0 rfl 6 (by decide) hf_49 (fun _ h => h) rfl dX5_mend_63 ?_
    refine lv_iload hx hb dX5_mend_66 (lv_at hl 0 rfl) ?_
    refine x_aald (j := b) (a := ad (10 + 4 * b)) hx hb hK hw 9 3 (by omega) c_9 rfl rfl (by omega) (by decide) rfl dX5_mend_68 ?_
    have c_10_4_b : f_11 (10 + 4 * b) = .inr (1, [.ref (ad (11 + 4 * b)), .ref (ad (13 + 4 * b)), .int (g 7 b), .int (g 8 b), .int (g 9 b), .int (g 10 b), .int (g 11 b), .int (g 12 b)]) := (F_kf b (by omega))
    refine x_getN (ci := 1) (C := RX0) (T := TX0) (n := 8) (ref := RX0) hx hb hts hin_1 hown hK hw (10 + 4 * b) (by omega) c_10_4_b rfl 0 (by decide) (hE.1 (103, "octets", "LFixityRows$Octets;") (by decide)) (fun _ h => h) rfl dX5_mend_69 ?_
    have c_11_4_i : f_11 (11 + 4 * i) = .inr (3, [.ref (ad (12 + 4 * i)), .int (nI (n (10 + i)))]) := (F_oc i (by omega))
    have c_12_4_i : f_11 (12 + 4 * i) = ai (ca 0) 200 (g (100 + i)) := (F_va i (by omega))
    have c_11_4_b : f_11 (11 + 4 * b) = .inr (3, [.ref (ad (12 + 4 * b)), .int (nI (n (10 + b)))]) := (F_oc b (by omega))
    have c_12_4_b : f_11 (12 + 4 * b) = ai (ca 0) 200 (g (100 + b)) := (F_va b (by omega))
    refine x_Vv (q := 11 + 4 * i) (As := [.ref (ad (11 + 4 * b))]) (rest := []) ⟨hx, hb, hml, hown, hts⟩ (k_X2_copyFrom l D ca N ad B tR tK f_11 dd (11 + 4 * i) (12 + 4 * i) (n (10 + i)) (g (100 + i)) (11 + 4 * b) (12 + 4 * b) (n (10 + b)) (g (100 + b)) (by omega) c_11_4_i (by omega) c_12_4_i (by omega) c_11_4_b (by omega) c_12_4_b  (by omega) (by omega) (hsz b (by omega))) (cwV 1 hts gX5_mend_X2_copyFrom rfl rfl rfl (by decide +kernel) ⟨Nat.le_of_ble_eq_true rfl, Nat.le_of_ble_eq_true rfl⟩) hK hE hB hw (by omega) c_11_4_i rfl rfl rfl rfl hl.1 (Nat.le_of_ble_eq_true rfl) ⟨Nat.zero_le _, Nat.zero_le _⟩ dX5_mend_72 (fun f_17 H locs hp hw => ?_)
    have eu := hp
    have ef_17 : f_17 = va_up (va_up f_11 (11 + 4 * i) (.inr (3, [.ref (ad (12 + 4 * i)), .int (nI (n (10 + b)))]))) (12 + 4 * i) (ai (ca 0) 200 (cpyTo (g (100 + i)) (g (100 + b)) (n (10 + b)))) := eu
    have c_11_4_i : f_17 (11 + 4 * i) = .inr (3, [.ref (ad (12 + 4 * i)), .int (nI (n (10 + b)))]) := by rw [ef_17, va_up_ne _ _ (by omega), va_up_self]
    have c_12_4_i : f_17 (12 + 4 * i) = ai (ca 0) 200 (cpyTo (g (100 + i)) (g (100 + b)) (n (10 + b))) := by rw [ef_17, va_up_self]
    refine lv_aload_n hx hb dX5_mend_75 rfl (lv_at hl 1 rfl) ?_
    refine lv_dup hx hb dX5_mend_76 rfl ?_
    have c_10_4_i : f_17 (10 + 4 * i) = .inr (1, [.ref (ad (11 + 4 * i)), .ref (ad (13 + 4 * i)), .int (g 7 i), .int (g 8 i), .int (g 9 i), .int (g 10 i), .int (g 11 i), .int (g 12 i)]) := by rw [ef_17, va_up_ne _ _ (by omega), va_up_ne _ _ (by omega)]; exact c_10_4_i
    refine x_getN (ci := 1) (C := RX0) (T := TX0) (n := 8) (ref := RX0) hx hb hts hin_1 hown hK hw (10 + 4 * i) (by omega) c_10_4_i rfl 7 (by decide) (hE.1 (170, "mendings", "I") (by decide)) (fun _ h => h) rfl dX5_mend_77 ?_
    refine lv_iconst (v := nI 1) hx hb dX5_mend_80 (by decide) ?_
    refine lv_iadd hx hb dX5_mend_81 ?_
    refine lv_topi (fun x_19 ex_19 => ?_)
    refine x_putN (ci := 1) (C := RX0) (T := TX0) (n := 8) (ref := RX0) (fs' := [.ref (ad (11 + 4 * i)), .ref (ad (13 + 4 * i)), .int (g 7 i), .int (g 8 i), .int (g 9 i), .int (g 10 i), .int (g 11 i), .int x_19]) hx hb hts hin_1 tyX0 tyX0_ok nmX0 hown hK dd hw (10 + 4 * i) (by omega) c_10_4_i rfl 7 (by decide) (hE.1 (170, "mendings", "I") (by decide)) (fun _ h => h) rfl rfl rfl (Nat.le_of_ble_eq_true rfl) rfl dX5_mend_82 (fun H locs hw => ?_)
    obtain ⟨f_20, ef_20⟩ : ∃ z, z = va_up f_17 (10 + 4 * i) (.inr (1, [.ref (ad (11 + 4 * i)), .ref (ad (13 + 4 * i)), .int (g 7 i), .int (g 8 i), .int (g 9 i), .int (g 10 i), .int (g 11 i), .int x_19])) := ⟨_, rfl⟩
    have hw : xw D vwCl N ad B s.heap f_20 H locs := by rw [ef_20]; exact hw
    have c_10_4_i : f_20 (10 + 4 * i) = .inr (1, [.ref (ad (11 + 4 * i)), .ref (ad (13 + 4 * i)), .int (g 7 i), .int (g 8 i), .int (g 9 i), .int (g 10 i), .int (g 11 i), .int x_19]) := va_up_of ef_20
    refine lv_aload_n hx hb dX5_mend_85 rfl (lv_at hl 2 rfl) ?_
    have c_0 : f_20 0 = .inr (6, [.int (nI (n 0)), .ref (ad 1), .ref (ad 4), .ref (ad 6), .ref (ad 8), .int (nI (n 1)), .ref (ad 9), .int (nI (n 2)), .ref (ad 90), .ref (ad 300), .ref (ad 301), .int (nI (n 3)), .int (g 13 0)]) := by rw [ef_20, va_up_ne _ _ (by omega), ef_17, va_up_ne _ _ (by omega), va_up_ne _ _ (by omega)]; exact c_0
    refine x_get (ci := 6) (C := RX5) (T := TX5) (n := 13) (ref := RX5) hx hb hts hin_6 hown hK hw 0 (by omega) c_0 rfl 8 (by decide) hf_57 (fun _ h => h) rfl dX5_mend_86 ?_
    refine lv_iconst (v := nI 3) hx hb dX5_mend_89 (by decide) ?_
    refine lv_iload_n hx hb dX5_mend_90 rfl (lv_at hl 3 rfl) ?_
    refine lv_iload_n hx hb dX5_mend_91 rfl (lv_at hl 4 rfl) ?_
    have c_90 : f_20 90 = .inr (4, [.ref (ad 91), .ref (ad 94), .ref (ad 96), .ref (ad 97), .ref (ad 98), .ref (ad 99), .int (nI (n 5))]) := by rw [ef_20, va_up_ne _ _ (by omega), ef_17, va_up_ne _ _ (by omega), va_up_ne _ _ (by omega)]; exact c_90
    refine x_Vv (q := 90) (As := [.int (nI 3), .int (nI i), .int (nI j)]) (rest := []) ⟨hx, hb, hml, hown, hts⟩ (k_X3_append_full l D ca N ad B tR tK f_20 dd (n 5) (nI 3) (nI i) (nI j) c_90  (by omega) (by omega)) (cwV 3 hts gX5_mend_X3_append rfl rfl rfl (by decide +kernel) ⟨Nat.le_of_ble_eq_true rfl, Nat.le_of_ble_eq_true rfl⟩) hK hE hB hw (by omega) c_90 rfl rfl rfl rfl hl.1 (Nat.le_of_ble_eq_true rfl) ⟨Nat.zero_le _, Nat.zero_le _⟩ dX5_mend_92 (fun f_21 H locs hp hw => ?_)
    have eu := hp
    rw [← eu] at hw
    refine lv_iload hx hb dX5_mend_95 (lv_at hl 0 rfl) ?_
    have c_1 : f_20 1 = .inr (2, [.ref (ad 2), .ref (ad 3)]) := by rw [ef_20, va_up_ne _ _ (by omega), ef_17, va_up_ne _ _ (by omega), va_up_ne _ _ (by omega)]; exact c_1
    have c_2 : f_20 2 = ai (ca 0) 8 (z_13 0) := by rw [ef_20, va_up_ne _ _ (by omega), ef_17, va_up_ne _ _ (by omega), va_up_ne _ _ (by omega)]; exact c_2
    have c_3 : f_20 3 = ai (ca 0) 64 (z_13 1) := by rw [ef_20, va_up_ne _ _ (by omega), ef_17, va_up_ne _ _ (by omega), va_up_ne _ _ (by omega)]; exact c_3
    have c_4 : f_20 4 = .inr (5, [.ref (ad 5)]) := by rw [ef_20, va_up_ne _ _ (by omega), ef_17, va_up_ne _ _ (by omega), va_up_ne _ _ (by omega)]; exact c_4
    have c_5 : f_20 5 = ai (ca 0) 256 tb := by rw [ef_20, va_up_ne _ _ (by omega), ef_17, va_up_ne _ _ (by omega), va_up_ne _ _ (by omega)]; exact c_5
    have c_6 : f_20 6 = .inr (3, [.ref (ad 7), .int (nI (n 4))]) := by rw [ef_20, va_up_ne _ _ (by omega), ef_17, va_up_ne _ _ (by omega), va_up_ne _ _ (by omega)]; exact c_6
    have c_7 : f_20 7 = ai (ca 0) 200 (g 0) := by rw [ef_20, va_up_ne _ _ (by omega), ef_17, va_up_ne _ _ (by omega), va_up_ne _ _ (by omega)]; exact c_7
    have c_8 : f_20 8 = ai (ca 0) 8 (g 1) := by rw [ef_20, va_up_ne _ _ (by omega), ef_17, va_up_ne _ _ (by omega), va_up_ne _ _ (by omega)]; exact c_8
    have c_9 : f_20 9 = aq (ca 3) 20 (fun i => some (ad (10 + 4 * i))) := by rw [ef_20, va_up_ne _ _ (by omega), ef_17, va_up_ne _ _ (by omega), va_up_ne _ _ (by omega)]; exact c_9
    have c_91 : f_20 91 = .inr (2, [.ref (ad 92), .ref (ad 93)]) := by rw [ef_20, va_up_ne _ _ (by omega), ef_17, va_up_ne _ _ (by omega), va_up_ne _ _ (by omega)]; exact c_91
    have c_92 : f_20 92 = ai (ca 0) 8 (z_13 2) := by rw [ef_20, va_up_ne _ _ (by omega), ef_17, va_up_ne _ _ (by omega), va_up_ne _ _ (by omega)]; exact c_92
    have c_93 : f_20 93 = ai (ca 0) 64 (z_13 3) := by rw [ef_20, va_up_ne _ _ (by omega), ef_17, va_up_ne _ _ (by omega), va_up_ne _ _ (by omega)]; exact c_93
    have c_94 : f_20 94 = .inr (3, [.ref (ad 95), .int (nI zn_14)]) := by rw [ef_20, va_up_ne _ _ (by omega), ef_17, va_up_ne _ _ (by omega), va_up_ne _ _ (by omega)]; exact c_94
    have c_95 : f_20 95 = ai (ca 0) 200 (z_13 4) := by rw [ef_20, va_up_ne _ _ (by omega), ef_17, va_up_ne _ _ (by omega), va_up_ne _ _ (by omega)]; exact c_95
    have c_96 : f_20 96 = ai (ca 0) 200 (g 4) := by rw [ef_20, va_up_ne _ _ (by omega), ef_17, va_up_ne _ _ (by omega), va_up_ne _ _ (by omega)]; exact c_96
    have c_97 : f_20 97 = ai (ca 0) 200 (g 5) := by rw [ef_20, va_up_ne _ _ (by omega), ef_17, va_up_ne _ _ (by omega), va_up_ne _ _ (by omega)]; exact c_97
    have c_98 : f_20 98 = ai (ca 0) 200 (g 6) := by rw [ef_20, va_up_ne _ _ (by omega), ef_17, va_up_ne _ _ (by omega), va_up_ne _ _ (by omega)]; exact c_98
    have c_99 : f_20 99 = aq (ca 4) 200 (fun i => some (ad (100 + i))) := by rw [ef_20, va_up_ne _ _ (by omega), ef_17, va_up_ne _ _ (by omega), va_up_ne _ _ (by omega)]; exact c_99
    have c_300 : f_20 300 = ai (ca 0) 20 (g 2) := by rw [ef_20, va_up_ne _ _ (by omega), ef_17, va_up_ne _ _ (by omega), va_up_ne _ _ (by omega)]; exact c_300
    have c_301 : f_20 301 = ai (ca 2) 20 (g 3) := by rw [ef_20, va_up_ne _ _ (by omega), ef_17, va_up_ne _ _ (by omega), va_up_ne _ _ (by omega)]; exact c_301
    have c_10_4_i : f_20 (10 + 4 * i) = .inr (1, [.ref (ad (11 + 4 * i)), .ref (ad (13 + 4 * i)), .int (g 7 i), .int (g 8 i), .int (g 9 i), .int (g 10 i), .int (g 11 i), .int ((g 12 i) + (nI 1))]) := by rw [c_10_4_i]; simp only [ex_19]
    have c_11_4_i : f_20 (11 + 4 * i) = .inr (3, [.ref (ad (12 + 4 * i)), .int (nI (n (10 + b)))]) := by rw [ef_20, va_up_ne _ _ (by omega)]; exact c_11_4_i
    have c_12_4_i : f_20 (12 + 4 * i) = ai (ca 0) 200 (cpyTo (g (100 + i)) (g (100 + b)) (n (10 + b))) := by rw [ef_20, va_up_ne _ _ (by omega)]; exact c_12_4_i
    have qn_0 : (va_up n (10 + i) (n (10 + b))) 0 = n 0 := by rw [va_up_ne _ _ (by omega)]
    have qn_1 : (va_up n (10 + i) (n (10 + b))) 1 = n 1 := by rw [va_up_ne _ _ (by omega)]
    have qn_2 : (va_up n (10 + i) (n (10 + b))) 2 = n 2 := by rw [va_up_ne _ _ (by omega)]
    have qn_3 : (va_up n (10 + i) (n (10 + b))) 3 = n 3 := by rw [va_up_ne _ _ (by omega)]
    have qn_4 : (va_up n (10 + i) (n (10 + b))) 4 = n 4 := by rw [va_up_ne _ _ (by omega)]
    have qn_5 : (va_up n (10 + i) (n (10 + b))) 5 = n 5 := by rw [va_up_ne _ _ (by omega)]
    have qg_0 : (va_up (va_up g 12 (upd (g 12) i ((g 12 i) + (nI 1)))) (100 + i) (cpyTo (g (100 + i)) (g (100 + b)) (n (10 + b)))) 0 = g 0 := by rw [va_up_ne _ _ (by omega), va_up_ne _ _ (by decide)]
    have qg_1 : (va_up (va_up g 12 (upd (g 12) i ((g 12 i) + (nI 1)))) (100 + i) (cpyTo (g (100 + i)) (g (100 + b)) (n (10 + b)))) 1 = g 1 := by rw [va_up_ne _ _ (by omega), va_up_ne _ _ (by decide)]
    have qg_2 : (va_up (va_up g 12 (upd (g 12) i ((g 12 i) + (nI 1)))) (100 + i) (cpyTo (g (100 + i)) (g (100 + b)) (n (10 + b)))) 2 = g 2 := by rw [va_up_ne _ _ (by omega), va_up_ne _ _ (by decide)]
    have qg_3 : (va_up (va_up g 12 (upd (g 12) i ((g 12 i) + (nI 1)))) (100 + i) (cpyTo (g (100 + i)) (g (100 + b)) (n (10 + b)))) 3 = g 3 := by rw [va_up_ne _ _ (by omega), va_up_ne _ _ (by decide)]
    have qg_4 : (va_up (va_up g 12 (upd (g 12) i ((g 12 i) + (nI 1)))) (100 + i) (cpyTo (g (100 + i)) (g (100 + b)) (n (10 + b)))) 4 = g 4 := by rw [va_up_ne _ _ (by omega), va_up_ne _ _ (by decide)]
    have qg_5 : (va_up (va_up g 12 (upd (g 12) i ((g 12 i) + (nI 1)))) (100 + i) (cpyTo (g (100 + i)) (g (100 + b)) (n (10 + b)))) 5 = g 5 := by rw [va_up_ne _ _ (by omega), va_up_ne _ _ (by decide)]
    have qg_6 : (va_up (va_up g 12 (upd (g 12) i ((g 12 i) + (nI 1)))) (100 + i) (cpyTo (g (100 + i)) (g (100 + b)) (n (10 + b)))) 6 = g 6 := by rw [va_up_ne _ _ (by omega), va_up_ne _ _ (by decide)]
    have qg_7 : (va_up (va_up g 12 (upd (g 12) i ((g 12 i) + (nI 1)))) (100 + i) (cpyTo (g (100 + i)) (g (100 + b)) (n (10 + b)))) 7 = g 7 := by rw [va_up_ne _ _ (by omega), va_up_ne _ _ (by decide)]
    have qg_8 : (va_up (va_up g 12 (upd (g 12) i ((g 12 i) + (nI 1)))) (100 + i) (cpyTo (g (100 + i)) (g (100 + b)) (n (10 + b)))) 8 = g 8 := by rw [va_up_ne _ _ (by omega), va_up_ne _ _ (by decide)]
    have qg_9 : (va_up (va_up g 12 (upd (g 12) i ((g 12 i) + (nI 1)))) (100 + i) (cpyTo (g (100 + i)) (g (100 + b)) (n (10 + b)))) 9 = g 9 := by rw [va_up_ne _ _ (by omega), va_up_ne _ _ (by decide)]
    have qg_10 : (va_up (va_up g 12 (upd (g 12) i ((g 12 i) + (nI 1)))) (100 + i) (cpyTo (g (100 + i)) (g (100 + b)) (n (10 + b)))) 10 = g 10 := by rw [va_up_ne _ _ (by omega), va_up_ne _ _ (by decide)]
    have qg_11 : (va_up (va_up g 12 (upd (g 12) i ((g 12 i) + (nI 1)))) (100 + i) (cpyTo (g (100 + i)) (g (100 + b)) (n (10 + b)))) 11 = g 11 := by rw [va_up_ne _ _ (by omega), va_up_ne _ _ (by decide)]
    have qg_12 : (va_up (va_up g 12 (upd (g 12) i ((g 12 i) + (nI 1)))) (100 + i) (cpyTo (g (100 + i)) (g (100 + b)) (n (10 + b)))) 12 = upd (g 12) i ((g 12 i) + (nI 1)) := by rw [va_up_ne _ _ (by omega), va_up_self]
    have qg_13 : (va_up (va_up g 12 (upd (g 12) i ((g 12 i) + (nI 1)))) (100 + i) (cpyTo (g (100 + i)) (g (100 + b)) (n (10 + b)))) 13 = g 13 := by rw [va_up_ne _ _ (by omega), va_up_ne _ _ (by decide)]
    have hRz : RepX ca ad (va_up n (10 + i) (n (10 + b))) (va_up (va_up g 12 (upd (g 12) i ((g 12 i) + (nI 1)))) (100 + i) (cpyTo (g (100 + i)) (g (100 + b)) (n (10 + b)))) z_13 zn_14 tb f_20 := ⟨(by rw [qn_0, qn_1, qn_2, qn_3, qg_13]; exact c_0),
          c_1,
          c_2,
          c_3,
          c_4,
          c_5,
          (by rw [qn_4]; exact c_6),
          (by rw [qg_0]; exact c_7),
          (by rw [qg_1]; exact c_8),
          c_9,
          (by rw [qn_5]; exact c_90),
          c_91,
          c_92,
          c_93,
          c_94,
          c_95,
          (by rw [qg_4]; exact c_96),
          (by rw [qg_5]; exact c_97),
          (by rw [qg_6]; exact c_98),
          c_99,
          (by rw [qg_2]; exact c_300),
          (by rw [qg_3]; exact c_301),
          (fun i9 hi9 => by
          by_cases ei : i9 = i
          · rw [ei]; simp only [qg_7, qg_8, qg_9, qg_10, qg_11, qg_12, pk_us]; exact c_10_4_i
          · simp only [qg_7, qg_8, qg_9, qg_10, qg_11, qg_12, pk_un ei]; rw [ef_20, va_up_ne _ _ (by omega), ef_17, va_up_ne _ _ (by omega), va_up_ne _ _ (by omega)]; exact F_kf i9 hi9),
          (fun i9 hi9 => by
          by_cases ei : i9 = i
          · rw [ei, va_up_self]; exact c_11_4_i
          · rw [va_up_ne _ _ (by omega)]; rw [ef_20, va_up_ne _ _ (by omega), ef_17, va_up_ne _ _ (by omega), va_up_ne _ _ (by omega)]; exact F_oc i9 hi9),
          (fun i9 hi9 => by
          by_cases ei : i9 = i
          · rw [ei, va_up_self]; exact c_12_4_i
          · rw [va_up_ne _ _ (by omega), va_up_ne _ _ (by omega)]; rw [ef_20, va_up_ne _ _ (by omega), ef_17, va_up_ne _ _ (by omega), va_up_ne _ _ (by omega)]; exact F_va i9 hi9),
          (fun i9 hi9 => by rw [va_up_ne _ _ (by omega), va_up_ne _ _ (by omega)]; rw [ef_20, va_up_ne _ _ (by omega), ef_17, va_up_ne _ _ (by omega), va_up_ne _ _ (by omega)]; exact F_lw i9 hi9),
          (fun i9 hi9 => by rw [va_up_ne _ _ (by omega), va_up_ne _ _ (by omega)]; rw [ef_20, va_up_ne _ _ (by omega), ef_17, va_up_ne _ _ (by omega), va_up_ne _ _ (by omega)]; exact F_M i9 hi9), hzn, hT⟩
    exact x_iret hx hb hr hlocks hw ⟨rfl, z_13, zn_14, hRz, (fun y hy => by rw [ef_20, va_up_ne _ _ (by omega), ef_17, va_up_ne _ _ (by omega), va_up_ne _ _ (by omega)]; exact hfr y hy)⟩ dX5_mend_97
  · exact absurd hc_52 (fun q => absurd (q ▸ nI_pos (show b < 2 ^ 31 by omega)) (by decide))
