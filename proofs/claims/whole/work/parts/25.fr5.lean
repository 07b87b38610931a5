abbrev rmX5_read : Room := { frames := 6, cells := 0, slots := 0, locals := 146 }

set_option maxHeartbeats 4000000 in
set_option maxRecDepth 100000 in
theorem k_X5_read_nofile (l : Launch) (D : va_G) (ca : Nat → ClassId) (N : Nat) (ad : Nat → Nat) (B tR tK : Nat) (f : Nat → va_E) (dd : xD N ad B) (hN : 302 ≤ N) (n : Nat → Nat) (g : Nat → Nat → Int32) (z : Nat → Nat → Int32) (zn : Nat) (tb : Nat → Int32) (hR : RepX ca ad n g z zn tb f) (x : Int32) (y : Int32) (ho : x < 0 ∨ nI (n 2) ≤ x) : xMi l yX5_read wsX5_read rmX5_read [.ref (ad 0), .int x, .int y] D ca N ad B tR tK f (fun r u => (-1) = r ∧ ∃ (z1 : Nat → Nat → Int32) (zn1 : Nat), RepX ca ad n g z1 zn1 tb u ∧ ∀ y, 302 ≤ y → u y = f y) := by
  refine x_open (cc := cX5_read) (maxL := 3) (ret := (some .int)) (by decide) rfl (Nat.le_of_ble_eq_true rfl) ?_
  intro p e s m below meth c ls hx hb hml hown hts hr hlocks hnm hB hK hE hw hl
  have hown : s.vm.findClass RX5 = some m.cls := hown
  have hl : lv_has ls 3 [(0, .ref (ad 0)), (1, .int x), (2, .int y)] := hl
  obtain ⟨c_0, c_1, c_2, c_3, c_4, c_5, c_6, c_7, c_8, c_9, c_90, c_91, c_92, c_93, c_94, c_95, c_96, c_97, c_98, c_99, c_300, c_301, F_kf, F_oc, F_va, F_lw, F_M, hzn, hT⟩ := hR
  have b_0 := c_0
  have b_1 := c_1
  have b_2 := c_2
  have b_3 := c_3
  have b_4 := c_4
  have b_5 := c_5
  have b_6 := c_6
  have b_7 := c_7
  have b_8 := c_8
  have b_9 := c_9
  have b_90 := c_90
  have b_91 := c_91
  have b_92 := c_92
  have b_93 := c_93
  have b_94 := c_94
  have b_95 := c_95
  have b_96 := c_96
  have b_97 := c_97
  have b_98 := c_98
  have b_99 := c_99
  have b_300 := c_300
  have b_301 := c_301
  refine lv_aload_n hx hb dX5_read_0 rfl (lv_at hl 0 rfl) ?_
  refine lv_iload_n hx hb dX5_read_1 rfl (lv_at hl 1 rfl) ?_
  have hRk : RepX ca ad n g z zn tb f := ⟨c_0,
        c_1,
        c_2,
        c_3,
        c_4,
        c_5,
        c_6,
        c_7,
        c_8,
        c_9,
        c_90,
        c_91,
        c_92,
        c_93,
        c_94,
        c_95,
        c_96,
        c_97,
        c_98,
        c_99,
        c_300,
        c_301,
        (fun i9 hi9 => by exact F_kf i9 hi9),
        (fun i9 hi9 => by exact F_oc i9 hi9),
        (fun i9 hi9 => by exact F_va i9 hi9),
        (fun i9 hi9 => by exact F_lw i9 hi9),
        (fun i9 hi9 => by exact F_M i9 hi9), hzn, hT⟩
  have hfr : ∀ y, 302 ≤ y → f y = f y := (fun _ _ => rfl)
  refine x_Vi (q := 0) (As := [.int x]) (rest := []) ⟨hx, hb, hml, hown, hts⟩ (k_X5_isFile_no l D ca N ad B tR tK f dd hN n g z zn tb hRk x ho) (cwV 1 hts gX5_read_X5_isFile rfl rfl rfl (by decide +kernel) ⟨Nat.le_of_ble_eq_true rfl, Nat.le_of_ble_eq_true rfl⟩) hK hE hB hw (by omega) c_0 rfl rfl rfl rfl hl.1 (Nat.le_of_ble_eq_true rfl) ⟨Nat.zero_le _, Nat.zero_le _⟩ dX5_read_2 (fun r_2 f_1 H locs hp hw => ?_)
  obtain ⟨er, hp⟩ := hp
  rw [← er]
  rw [← hp] at hw
  refine lv_if_ne (tgt := 10) hx hb dX5_read_5 (by decide) (fun h => False.elim (h (by decide))) (fun _ => ?_)
  refine lv_iconst (v := (-1)) hx hb dX5_read_8 (by decide) ?_
  have hRz : RepX ca ad n g z zn tb f := ⟨c_0,
        c_1,
        c_2,
        c_3,
        c_4,
        c_5,
        c_6,
        c_7,
        c_8,
        c_9,
        c_90,
        c_91,
        c_92,
        c_93,
        c_94,
        c_95,
        c_96,
        c_97,
        c_98,
        c_99,
        c_300,
        c_301,
        (fun i9 hi9 => by exact F_kf i9 hi9),
        (fun i9 hi9 => by exact F_oc i9 hi9),
        (fun i9 hi9 => by exact F_va i9 hi9),
        (fun i9 hi9 => by exact F_lw i9 hi9),
        (fun i9 hi9 => by exact F_M i9 hi9), hzn, hT⟩
  exact x_iret hx hb hr hlocks hw ⟨rfl, z, zn, hRz, (fun _ _ => rfl)⟩ dX5_read_9

set_option maxHeartbeats 4000000 in
set_option maxRecDepth 100000 in
theorem k_X5_read_day (l : Launch) (D : va_G) (ca : Nat → ClassId) (N : Nat) (ad : Nat → Nat) (B tR tK : Nat) (f : Nat → va_E) (dd : xD N ad B) (hN : 302 ≤ N) (n : Nat → Nat) (g : Nat → Nat → Int32) (z : Nat → Nat → Int32) (zn : Nat) (tb : Nat → Int32) (hR : RepX ca ad n g z zn tb f) (i : Nat) (y : Int32) (h2 : n 2 ≤ 20) (hi : i < n 2) (ho : y < 0 ∨ nI 1000000 < y) : xMi l yX5_read wsX5_read rmX5_read [.ref (ad 0), .int (nI i), .int y] D ca N ad B tR tK f (fun r u => (-2) = r ∧ ∃ (z1 : Nat → Nat → Int32) (zn1 : Nat), RepX ca ad n g z1 zn1 tb u ∧ ∀ y, 302 ≤ y → u y = f y) := by
  refine x_open (cc := cX5_read) (maxL := 3) (ret := (some .int)) (by decide) rfl (Nat.le_of_ble_eq_true rfl) ?_
  intro p e s m below meth c ls hx hb hml hown hts hr hlocks hnm hB hK hE hw hl
  have hown : s.vm.findClass RX5 = some m.cls := hown
  have hl : lv_has ls 3 [(0, .ref (ad 0)), (1, .int (nI i)), (2, .int y)] := hl
  obtain ⟨c_0, c_1, c_2, c_3, c_4, c_5, c_6, c_7, c_8, c_9, c_90, c_91, c_92, c_93, c_94, c_95, c_96, c_97, c_98, c_99, c_300, c_301, F_kf, F_oc, F_va, F_lw, F_M, hzn, hT⟩ := hR
  have b_0 := c_0
  have b_1 := c_1
  have b_2 := c_2
  have b_3 := c_3
  have b_4 := c_4
  have b_5 := c_5
  have b_6 := c_6
  have b_7 := c_7
  have b_8 := c_8
  have b_9 := c_9
  have b_90 := c_90
  have b_91 := c_91
  have b_92 := c_92
  have b_93 := c_93
  have b_94 := c_94
  have b_95 := c_95
  have b_96 := c_96
  have b_97 := c_97
  have b_98 := c_98
  have b_99 := c_99
  have b_300 := c_300
  have b_301 := c_301
  refine lv_aload_n hx hb dX5_read_0 rfl (lv_at hl 0 rfl) ?_
  refine lv_iload_n hx hb dX5_read_1 rfl (lv_at hl 1 rfl) ?_
  have hRk : RepX ca ad n g z zn tb f := ⟨c_0,
        c_1,
        c_2,
        c_3,
        c_4,
        c_5,
        c_6,
        c_7,
        c_8,
        c_9,
        c_90,
        c_91,
        c_92,
        c_93,
        c_94,
        c_95,
        c_96,
        c_97,
        c_98,
        c_99,
        c_300,
        c_301,
        (fun i9 hi9 => by exact F_kf i9 hi9),
        (fun i9 hi9 => by exact F_oc i9 hi9),
        (fun i9 hi9 => by exact F_va i9 hi9),
        (fun i9 hi9 => by exact F_lw i9 hi9),
        (fun i9 hi9 => by exact F_M i9 hi9), hzn, hT⟩
  have hfr : ∀ y, 302 ≤ y → f y = f y := (fun _ _ => rfl)
  refine x_Vi (q := 0) (As := [.int (nI i)]) (rest := []) ⟨hx, hb, hml, hown, hts⟩ (k_X5_isFile_yes l D ca N ad B tR tK f dd hN n g z zn tb hRk i (by omega) (by omega)) (cwV 1 hts gX5_read_X5_isFile rfl rfl rfl (by decide +kernel) ⟨Nat.le_of_ble_eq_true rfl, Nat.le_of_ble_eq_true rfl⟩) hK hE hB hw (by omega) c_0 rfl rfl rfl rfl hl.1 (Nat.le_of_ble_eq_true rfl) ⟨Nat.zero_le _, Nat.zero_le _⟩ dX5_read_2 (fun r_2 f_1 H locs hp hw => ?_)
  obtain ⟨er, hp⟩ := hp
  rw [← er]
  rw [← hp] at hw
  refine lv_if_ne (tgt := 10) hx hb dX5_read_5 (by decide) (fun _ => ?_) (fun h => absurd h (by decide))
  refine lv_iload_n hx hb dX5_read_10 rfl (lv_at hl 2 rfl) ?_
  refine x_Si (As := [.int y]) (rest := []) ⟨hx, hb, hml, hown, hts⟩ (k_X5_isDay_no l D ca N ad B tR tK f dd y   ho) (va_cwS 1 hts gX5_read_X5_isDay rfl rfl rfl (by decide +kernel) ⟨Nat.le_of_ble_eq_true rfl, Nat.le_of_ble_eq_true rfl⟩) hK hE hB hw rfl rfl hl.1 (Nat.le_of_ble_eq_true rfl) ⟨Nat.zero_le _, Nat.zero_le _⟩ dX5_read_11 (fun r_4 f_3 H locs hp hw => ?_)
  obtain ⟨er, eu⟩ := hp
  rw [← er]
  rw [← eu] at hw
  refine lv_if_ne (tgt := 20) hx hb dX5_read_14 (by decide) (fun h => False.elim (h (by decide))) (fun _ => ?_)
  refine lv_bipush (v := (-2)) hx hb dX5_read_17 (by decide) ?_
  have hRz : RepX ca ad n g z zn tb f := ⟨c_0,
        c_1,
        c_2,
        c_3,
        c_4,
        c_5,
        c_6,
        c_7,
        c_8,
        c_9,
        c_90,
        c_91,
        c_92,
        c_93,
        c_94,
        c_95,
        c_96,
        c_97,
        c_98,
        c_99,
        c_300,
        c_301,
        (fun i9 hi9 => by exact F_kf i9 hi9),
        (fun i9 hi9 => by exact F_oc i9 hi9),
        (fun i9 hi9 => by exact F_va i9 hi9),
        (fun i9 hi9 => by exact F_lw i9 hi9),
        (fun i9 hi9 => by exact F_M i9 hi9), hzn, hT⟩
  exact x_iret hx hb hr hlocks hw ⟨rfl, z, zn, hRz, (fun _ _ => rfl)⟩ dX5_read_19

set_option maxHeartbeats 4000000 in
set_option maxRecDepth 100000 in
theorem k_X5_read_fit (l : Launch) (D : va_G) (ca : Nat → ClassId) (N : Nat) (ad : Nat → Nat) (B tR tK : Nat) (f : Nat → va_E) (dd : xD N ad B) (hN : 302 ≤ N) (n : Nat → Nat) (g : Nat → Nat → Int32) (z : Nat → Nat → Int32) (zn : Nat) (tb : Nat → Int32) (hR : RepX ca ad n g z zn tb f) (i : Nat) (j : Nat) (h2 : n 2 ≤ 20) (hi : i < n 2) (hj : j ≤ 1000000) (hsz : ∀ i, i < 20 → n (10 + i) ≤ 200) (h5 : n 5 < 200) (hf : fitsX n g i i) : xMi l yX5_read wsX5_read rmX5_read [.ref (ad 0), .int (nI i), .int (nI j)] D ca N ad B tR tK f (fun r u => nI 1 = r ∧ ∃ (z1 : Nat → Nat → Int32) (zn1 : Nat), RepX ca ad ((va_up n 5 ((n 5) + 1))) ((va_up (va_up (va_up (va_up (va_up g 4 (upd (g 4) (n 5) (nI 1))) 5 (upd (g 5) (n 5) (nI i))) 6 (upd (g 6) (n 5) (nI j))) 9 (upd (g 9) i (nI j))) (1000 + (n 5)) (rowD (prevD (fun i8 => g (1000 + i8)) (n 5)) (nI 1) (nI i) (nI j)))) z1 zn1 tb u ∧ ∀ y, 302 ≤ y → u y = f y) := by
  refine x_open (cc := cX5_read) (maxL := 3) (ret := (some .int)) (by decide) rfl (Nat.le_of_ble_eq_true rfl) ?_
  intro p e s m below meth c ls hx hb hml hown hts hr hlocks hnm hB hK hE hw hl
  have hown : s.vm.findClass RX5 = some m.cls := hown
  have hl : lv_has ls 3 [(0, .ref (ad 0)), (1, .int (nI i)), (2, .int (nI j))] := hl
  obtain ⟨c_0, c_1, c_2, c_3, c_4, c_5, c_6, c_7, c_8, c_9, c_90, c_91, c_92, c_93, c_94, c_95, c_96, c_97, c_98, c_99, c_300, c_301, F_kf, F_oc, F_va, F_lw, F_M, hzn, hT⟩ := hR
  have b_0 := c_0
  have b_1 := c_1
  have b_2 := c_2
  have b_3 := c_3
  have b_4 := c_4
  have b_5 := c_5
  have b_6 := c_6
  have b_7 := c_7
  have b_8 := c_8
  have b_9 := c_9
  have b_90 := c_90
  have b_91 := c_91
  have b_92 := c_92
  have b_93 := c_93
  have b_94 := c_94
  have b_95 := c_95
  have b_96 := c_96
  have b_97 := c_97
  have b_98 := c_98
  have b_99 := c_99
  have b_300 := c_300
  have b_301 := c_301
  refine lv_aload_n hx hb dX5_read_0 rfl (lv_at hl 0 rfl) ?_
  refine lv_iload_n hx hb dX5_read_1 rfl (lv_at hl 1 rfl) ?_
  have hRk : RepX ca ad n g z zn tb f := ⟨c_0,
        c_1,
        c_2,
        c_3,
        c_4,
        c_5,
        c_6,
        c_7,
        c_8,
        c_9,
        c_90,
        c_91,
        c_92,
        c_93,
        c_94,
        c_95,
        c_96,
        c_97,
        c_98,
        c_99,
        c_300,
        c_301,
        (fun i9 hi9 => by exact F_kf i9 hi9),
        (fun i9 hi9 => by exact F_oc i9 hi9),
        (fun i9 hi9 => by exact F_va i9 hi9),
        (fun i9 hi9 => by exact F_lw i9 hi9),
        (fun i9 hi9 => by exact F_M i9 hi9), hzn, hT⟩
  have hfr : ∀ y, 302 ≤ y → f y = f y := (fun _ _ => rfl)
  refine x_Vi (q := 0) (As := [.int (nI i)]) (rest := []) ⟨hx, hb, hml, hown, hts⟩ (k_X5_isFile_yes l D ca N ad B tR tK f dd hN n g z zn tb hRk i (by omega) (by omega)) (cwV 1 hts gX5_read_X5_isFile rfl rfl rfl (by decide +kernel) ⟨Nat.le_of_ble_eq_true rfl, Nat.le_of_ble_eq_true rfl⟩) hK hE hB hw (by omega) c_0 rfl rfl rfl rfl hl.1 (Nat.le_of_ble_eq_true rfl) ⟨Nat.zero_le _, Nat.zero_le _⟩ dX5_read_2 (fun r_2 f_1 H locs hp hw => ?_)
  obtain ⟨er, hp⟩ := hp
  rw [← er]
  rw [← hp] at hw
  refine lv_if_ne (tgt := 10) hx hb dX5_read_5 (by decide) (fun _ => ?_) (fun h => absurd h (by decide))
  refine lv_iload_n hx hb dX5_read_10 rfl (lv_at hl 2 rfl) ?_
  refine x_Si (As := [.int (nI j)]) (rest := []) ⟨hx, hb, hml, hown, hts⟩ (k_X5_isDay_yes l D ca N ad B tR tK f dd j   (by omega)) (va_cwS 1 hts gX5_read_X5_isDay rfl rfl rfl (by decide +kernel) ⟨Nat.le_of_ble_eq_true rfl, Nat.le_of_ble_eq_true rfl⟩) hK hE hB hw rfl rfl hl.1 (Nat.le_of_ble_eq_true rfl) ⟨Nat.zero_le _, Nat.zero_le _⟩ dX5_read_11 (fun r_4 f_3 H locs hp hw => ?_)
  obtain ⟨er, eu⟩ := hp
  rw [← er]
  rw [← eu] at hw
  refine lv_if_ne (tgt := 20) hx hb dX5_read_14 (by decide) (fun _ => ?_) (fun h => absurd h (by decide))
  refine lv_aload_n hx hb dX5_read_20 rfl (lv_at hl 0 rfl) ?_
  refine lv_iload_n hx hb dX5_read_21 rfl (lv_at hl 1 rfl) ?_
  refine lv_iload_n hx hb dX5_read_22 rfl (lv_at hl 2 rfl) ?_
  have hRk : RepX ca ad n g z zn tb f := ⟨c_0,
        c_1,
        c_2,
        c_3,
        c_4,
        c_5,
        c_6,
        c_7,
        c_8,
        c_9,
        c_90,
        c_91,
        c_92,
        c_93,
        c_94,
        c_95,
        c_96,
        c_97,
        c_98,
        c_99,
        c_300,
        c_301,
        (fun i9 hi9 => by exact F_kf i9 hi9),
        (fun i9 hi9 => by exact F_oc i9 hi9),
        (fun i9 hi9 => by exact F_va i9 hi9),
        (fun i9 hi9 => by exact F_lw i9 hi9),
        (fun i9 hi9 => by exact F_M i9 hi9), hzn, hT⟩
  have hfr : ∀ y, 302 ≤ y → f y = f y := (fun _ _ => rfl)
  refine x_Vi (q := 0) (As := [.int (nI i), .int (nI j)]) (rest := []) ⟨hx, hb, hml, hown, hts⟩ (k_X5_check_fit l D ca N ad B tR tK f dd hN n g z zn tb hRk i (nI j) (by omega) hsz (by omega) hf) (cwV 2 hts gX5_read_X5_check rfl rfl rfl (by decide +kernel) ⟨Nat.le_of_ble_eq_true rfl, Nat.le_of_ble_eq_true rfl⟩) hK hE hB hw (by omega) c_0 rfl rfl rfl rfl hl.1 (Nat.le_of_ble_eq_true rfl) ⟨Nat.zero_le _, Nat.zero_le _⟩ dX5_read_23 (fun r_6 f_5 H locs hp hw => ?_)
  obtain ⟨er, hp⟩ := hp
  rw [← er]
  obtain ⟨z_7, zn_8, hR2, hfr2⟩ := hp
  obtain ⟨n_9, en_9⟩ : ∃ x, x = va_up n 5 ((n 5) + 1) := ⟨_, rfl⟩
  obtain ⟨g_10, eg_10⟩ : ∃ x, x = va_up (va_up (va_up (va_up (va_up g 4 (upd (g 4) (n 5) (nI 1))) 5 (upd (g 5) (n 5) (nI i))) 6 (upd (g 6) (n 5) (nI j))) 9 (upd (g 9) i (nI j))) (1000 + (n 5)) (rowD (prevD (fun i8 => g (1000 + i8)) (n 5)) (nI 1) (nI i) (nI j)) := ⟨_, rfl⟩
  rw [← en_9, ← eg_10] at hR2
  have hfr : ∀ y, 302 ≤ y → f_5 y = f y := fun y hy => (hfr2 y hy).trans (hfr y hy)
  obtain ⟨c_0, c_1, c_2, c_3, c_4, c_5, c_6, c_7, c_8, c_9, c_90, c_91, c_92, c_93, c_94, c_95, c_96, c_97, c_98, c_99, c_300, c_301, F_kf, F_oc, F_va, F_lw, F_M, hzn, hT⟩ := hR2
  refine lv_if_eq (tgt := 33) hx hb dX5_read_26 (by decide) (fun h => absurd h (by decide)) (fun _ => ?_)
  refine lv_iconst (v := nI 1) hx hb dX5_read_29 (by decide) ?_
  refine lv_goto (tgt := 34) hx hb dX5_read_30 (by decide) ?_
  have hRz : RepX ca ad n_9 g_10 z_7 zn_8 tb f_5 := ⟨c_0,
        c_1,
        c_2,
        c_3,
        c_4,
        c_5,
        c_6,
        c_7,
        c_8,
        c_9,
        c_90,
        c_91,
        c_92,
        c_93,
        c_94,
        c_95,
        c_96,
        c_97,
        c_98,
        c_99,
        c_300,
        c_301,
        (fun i9 hi9 => by exact F_kf i9 hi9),
        (fun i9 hi9 => by exact F_oc i9 hi9),
        (fun i9 hi9 => by exact F_va i9 hi9),
        (fun i9 hi9 => by exact F_lw i9 hi9),
        (fun i9 hi9 => by exact F_M i9 hi9), hzn, hT⟩
  exact x_iret hx hb hr hlocks hw ⟨rfl, z_7, zn_8, (by rw [eg_10, en_9] at hRz; exact hRz), (fun y hy => hfr y hy)⟩ dX5_read_34

set_option maxHeartbeats 4000000 in
set_option maxRecDepth 100000 in
theorem k_X5_read_fitF (l : Launch) (D : va_G) (ca : Nat → ClassId) (N : Nat) (ad : Nat → Nat) (B tR tK : Nat) (f : Nat → va_E) (dd : xD N ad B) (hN : 302 ≤ N) (n : Nat → Nat) (g : Nat → Nat → Int32) (z : Nat → Nat → Int32) (zn : Nat) (tb : Nat → Int32) (hR : RepX ca ad n g z zn tb f) (i : Nat) (j : Nat) (h2 : n 2 ≤ 20) (hi : i < n 2) (hj : j ≤ 1000000) (hsz : ∀ i, i < 20 → n (10 + i) ≤ 200) (h5 : n 5 = 200) (hf : fitsX n g i i) : xMi l yX5_read wsX5_read rmX5_read [.ref (ad 0), .int (nI i), .int (nI j)] D ca N ad B tR tK f (fun r u => nI 1 = r ∧ ∃ (z1 : Nat → Nat → Int32) (zn1 : Nat), RepX ca ad n ((va_up g 9 (upd (g 9) i (nI j)))) z1 zn1 tb u ∧ ∀ y, 302 ≤ y → u y = f y) := by
  refine x_open (cc := cX5_read) (maxL := 3) (ret := (some .int)) (by decide) rfl (Nat.le_of_ble_eq_true rfl) ?_
  intro p e s m below meth c ls hx hb hml hown hts hr hlocks hnm hB hK hE hw hl
  have hown : s.vm.findClass RX5 = some m.cls := hown
  have hl : lv_has ls 3 [(0, .ref (ad 0)), (1, .int (nI i)), (2, .int (nI j))] := hl
  obtain ⟨c_0, c_1, c_2, c_3, c_4, c_5, c_6, c_7, c_8, c_9, c_90, c_91, c_92, c_93, c_94, c_95, c_96, c_97, c_98, c_99, c_300, c_301, F_kf, F_oc, F_va, F_lw, F_M, hzn, hT⟩ := hR
  have b_0 := c_0
  have b_1 := c_1
  have b_2 := c_2
  have b_3 := c_3
  have b_4 := c_4
  have b_5 := c_5
  have b_6 := c_6
  have b_7 := c_7
  have b_8 := c_8
  have b_9 := c_9
  have b_90 := c_90
  have b_91 := c_91
  have b_92 := c_92
  have b_93 := c_93
  have b_94 := c_94
  have b_95 := c_95
  have b_96 := c_96
  have b_97 := c_97
  have b_98 := c_98
  have b_99 := c_99
  have b_300 := c_300
  have b_301 := c_301
  refine lv_aload_n hx hb dX5_read_0 rfl (lv_at hl 0 rfl) ?_
  refine lv_iload_n hx hb dX5_read_1 rfl (lv_at hl 1 rfl) ?_
  have hRk : RepX ca ad n g z zn tb f := ⟨c_0,
        c_1,
        c_2,
        c_3,
        c_4,
        c_5,
        c_6,
        c_7,
        c_8,
        c_9,
        c_90,
        c_91,
        c_92,
        c_93,
        c_94,
        c_95,
        c_96,
        c_97,
        c_98,
        c_99,
        c_300,
        c_301,
        (fun i9 hi9 => by exact F_kf i9 hi9),
        (fun i9 hi9 => by exact F_oc i9 hi9),
        (fun i9 hi9 => by exact F_va i9 hi9),
        (fun i9 hi9 => by exact F_lw i9 hi9),
        (fun i9 hi9 => by exact F_M i9 hi9), hzn, hT⟩
  have hfr : ∀ y, 302 ≤ y → f y = f y := (fun _ _ => rfl)
  refine x_Vi (q := 0) (As := [.int (nI i)]) (rest := []) ⟨hx, hb, hml, hown, hts⟩ (k_X5_isFile_yes l D ca N ad B tR tK f dd hN n g z zn tb hRk i (by omega) (by omega)) (cwV 1 hts gX5_read_X5_isFile rfl rfl rfl (by decide +kernel) ⟨Nat.le_of_ble_eq_true rfl, Nat.le_of_ble_eq_true rfl⟩) hK hE hB hw (by omega) c_0 rfl rfl rfl rfl hl.1 (Nat.le_of_ble_eq_true rfl) ⟨Nat.zero_le _, Nat.zero_le _⟩ dX5_read_2 (fun r_2 f_1 H locs hp hw => ?_)
  obtain ⟨er, hp⟩ := hp
  rw [← er]
  rw [← hp] at hw
  refine lv_if_ne (tgt := 10) hx hb dX5_read_5 (by decide) (fun _ => ?_) (fun h => absurd h (by decide))
  refine lv_iload_n hx hb dX5_read_10 rfl (lv_at hl 2 rfl) ?_
  refine x_Si (As := [.int (nI j)]) (rest := []) ⟨hx, hb, hml, hown, hts⟩ (k_X5_isDay_yes l D ca N ad B tR tK f dd j   (by omega)) (va_cwS 1 hts gX5_read_X5_isDay rfl rfl rfl (by decide +kernel) ⟨Nat.le_of_ble_eq_true rfl, Nat.le_of_ble_eq_true rfl⟩) hK hE hB hw rfl rfl hl.1 (Nat.le_of_ble_eq_true rfl) ⟨Nat.zero_le _, Nat.zero_le _⟩ dX5_read_11 (fun r_4 f_3 H locs hp hw => ?_)
  obtain ⟨er, eu⟩ := hp
  rw [← er]
  rw [← eu] at hw
  refine lv_if_ne (tgt := 20) hx hb dX5_read_14 (by decide) (fun _ => ?_) (fun h => absurd h (by decide))
  refine lv_aload_n hx hb dX5_read_20 rfl (lv_at hl 0 rfl) ?_
  refine lv_iload_n hx hb dX5_read_21 rfl (lv_at hl 1 rfl) ?_
  refine lv_iload_n hx hb dX5_read_22 rfl (lv_at hl 2 rfl) ?_
  have hRk : RepX ca ad n g z zn tb f := ⟨c_0,
        c_1,
        c_2,
        c_3,
        c_4,
        c_5,
        c_6,
        c_7,
        c_8,
        c_9,
        c_90,
        c_91,
        c_92,
        c_93,
        c_94,
        c_95,
        c_96,
        c_97,
        c_98,
        c_99,
        c_300,
        c_301,
        (fun i9 hi9 => by exact F_kf i9 hi9),
        (fun i9 hi9 => by exact F_oc i9 hi9),
        (fun i9 hi9 => by exact F_va i9 hi9),
        (fun i9 hi9 => by exact F_lw i9 hi9),
        (fun i9 hi9 => by exact F_M i9 hi9), hzn, hT⟩
  have hfr : ∀ y, 302 ≤ y → f y = f y := (fun _ _ => rfl)
  refine x_Vi (q := 0) (As := [.int (nI i), .int (nI j)]) (rest := []) ⟨hx, hb, hml, hown, hts⟩ (k_X5_check_fitF l D ca N ad B tR tK f dd hN n g z zn tb hRk i (nI j) (by omega) hsz (by omega) hf) (cwV 2 hts gX5_read_X5_check rfl rfl rfl (by decide +kernel) ⟨Nat.le_of_ble_eq_true rfl, Nat.le_of_ble_eq_true rfl⟩) hK hE hB hw (by omega) c_0 rfl rfl rfl rfl hl.1 (Nat.le_of_ble_eq_true rfl) ⟨Nat.zero_le _, Nat.zero_le _⟩ dX5_read_23 (fun r_6 f_5 H locs hp hw => ?_)
  obtain ⟨er, hp⟩ := hp
  rw [← er]
  obtain ⟨z_7, zn_8, hR2, hfr2⟩ := hp
  obtain ⟨g_10, eg_10⟩ : ∃ x, x = va_up g 9 (upd (g 9) i (nI j)) := ⟨_, rfl⟩
  rw [← eg_10] at hR2
  have hfr : ∀ y, 302 ≤ y → f_5 y = f y := fun y hy => (hfr2 y hy).trans (hfr y hy)
  obtain ⟨c_0, c_1, c_2, c_3, c_4, c_5, c_6, c_7, c_8, c_9, c_90, c_91, c_92, c_93, c_94, c_95, c_96, c_97, c_98, c_99, c_300, c_301, F_kf, F_oc, F_va, F_lw, F_M, hzn, hT⟩ := hR2
  refine lv_if_eq (tgt := 33) hx hb dX5_read_26 (by decide) (fun h => absurd h (by decide)) (fun _ => ?_)
  refine lv_iconst (v := nI 1) hx hb dX5_read_29 (by decide) ?_
  refine lv_goto (tgt := 34) hx hb dX5_read_30 (by decide) ?_
  have hRz : RepX ca ad n g_10 z_7 zn_8 tb f_5 := ⟨c_0,
        c_1,
        c_2,
        c_3,
        c_4,
        c_5,
        c_6,
        c_7,
        c_8,
        c_9,
        c_90,
        c_91,
        c_92,
        c_93,
        c_94,
        c_95,
        c_96,
        c_97,
        c_98,
        c_99,
        c_300,
        c_301,
        (fun i9 hi9 => by exact F_kf i9 hi9),
        (fun i9 hi9 => by exact F_oc i9 hi9),
        (fun i9 hi9 => by exact F_va i9 hi9),
        (fun i9 hi9 => by exact F_lw i9 hi9),
        (fun i9 hi9 => by exact F_M i9 hi9), hzn, hT⟩
  exact x_iret hx hb hr hlocks hw ⟨rfl, z_7, zn_8, (by rw [eg_10] at hRz; exact hRz), (fun y hy => hfr y hy)⟩ dX5_read_34

set_option maxHeartbeats 4000000 in
set_option maxRecDepth 100000 in
theorem k_X5_read_no (l : Launch) (D : va_G) (ca : Nat → ClassId) (N : Nat) (ad : Nat → Nat) (B tR tK : Nat) (f : Nat → va_E) (dd : xD N ad B) (hN : 302 ≤ N) (n : Nat → Nat) (g : Nat → Nat → Int32) (z : Nat → Nat → Int32) (zn : Nat) (tb : Nat → Int32) (hR : RepX ca ad n g z zn tb f) (i : Nat) (j : Nat) (h2 : n 2 ≤ 20) (hi : i < n 2) (hj : j ≤ 1000000) (hsz : ∀ i, i < 20 → n (10 + i) ≤ 200) (h5 : n 5 < 200) (hf : ¬ fitsX n g i i) : xMi l yX5_read wsX5_read rmX5_read [.ref (ad 0), .int (nI i), .int (nI j)] D ca N ad B tR tK f (fun r u => nI 0 = r ∧ ∃ (z1 : Nat → Nat → Int32) (zn1 : Nat), RepX ca ad ((va_up n 5 ((n 5) + 1))) ((va_up (va_up (va_up (va_up g 4 (upd (g 4) (n 5) (nI 2))) 5 (upd (g 5) (n 5) (nI i))) 6 (upd (g 6) (n 5) (nI j))) (1000 + (n 5)) (rowD (prevD (fun i8 => g (1000 + i8)) (n 5)) (nI 2) (nI i) (nI j)))) z1 zn1 tb u ∧ ∀ y, 302 ≤ y → u y = f y) := by
  refine x_open (cc := cX5_read) (maxL := 3) (ret := (some .int)) (by decide) rfl (Nat.le_of_ble_eq_true rfl) ?_
  intro p e s m below meth c ls hx hb hml hown hts hr hlocks hnm hB hK hE hw hl
  have hown : s.vm.findClass RX5 = some m.cls := hown
  have hl : lv_has ls 3 [(0, .ref (ad 0)), (1, .int (nI i)), (2, .int (nI j))] := hl
  obtain ⟨c_0, c_1, c_2, c_3, c_4, c_5, c_6, c_7, c_8, c_9, c_90, c_91, c_92, c_93, c_94, c_95, c_96, c_97, c_98, c_99, c_300, c_301, F_kf, F_oc, F_va, F_lw, F_M, hzn, hT⟩ := hR
  have b_0 := c_0
  have b_1 := c_1
  have b_2 := c_2
  have b_3 := c_3
  have b_4 := c_4
  have b_5 := c_5
  have b_6 := c_6
  have b_7 := c_7
  have b_8 := c_8
  have b_9 := c_9
  have b_90 := c_90
  have b_91 := c_91
  have b_92 := c_92
  have b_93 := c_93
  have b_94 := c_94
  have b_95 := c_95
  have b_96 := c_96
  have b_97 := c_97
  have b_98 := c_98
  have b_99 := c_99
  have b_300 := c_300
  have b_301 := c_301
  refine lv_aload_n hx hb dX5_read_0 rfl (lv_at hl 0 rfl) ?_
  refine lv_iload_n hx hb dX5_read_1 rfl (lv_at hl 1 rfl) ?_
  have hRk : RepX ca ad n g z zn tb f := ⟨c_0,
        c_1,
        c_2,
        c_3,
        c_4,
        c_5,
        c_6,
        c_7,
        c_8,
        c_9,
        c_90,
        c_91,
        c_92,
        c_93,
        c_94,
        c_95,
        c_96,
        c_97,
        c_98,
        c_99,
        c_300,
        c_301,
        (fun i9 hi9 => by exact F_kf i9 hi9),
        (fun i9 hi9 => by exact F_oc i9 hi9),
        (fun i9 hi9 => by exact F_va i9 hi9),
        (fun i9 hi9 => by exact F_lw i9 hi9),
        (fun i9 hi9 => by exact F_M i9 hi9), hzn, hT⟩
  have hfr : ∀ y, 302 ≤ y → f y = f y := (fun _ _ => rfl)
  refine x_Vi (q := 0) (As := [.int (nI i)]) (rest := []) ⟨hx, hb, hml, hown, hts⟩ (k_X5_isFile_yes l D ca N ad B tR tK f dd hN n g z zn tb hRk i (by omega) (by omega)) (cwV 1 hts gX5_read_X5_isFile rfl rfl rfl (by decide +kernel) ⟨Nat.le_of_ble_eq_true rfl, Nat.le_of_ble_eq_true rfl⟩) hK hE hB hw (by omega) c_0 rfl rfl rfl rfl hl.1 (Nat.le_of_ble_eq_true rfl) ⟨Nat.zero_le _, Nat.zero_le _⟩ dX5_read_2 (fun r_2 f_1 H locs hp hw => ?_)
  obtain ⟨er, hp⟩ := hp
  rw [← er]
  rw [← hp] at hw
  refine lv_if_ne (tgt := 10) hx hb dX5_read_5 (by decide) (fun _ => ?_) (fun h => absurd h (by decide))
  refine lv_iload_n hx hb dX5_read_10 rfl (lv_at hl 2 rfl) ?_
  refine x_Si (As := [.int (nI j)]) (rest := []) ⟨hx, hb, hml, hown, hts⟩ (k_X5_isDay_yes l D ca N ad B tR tK f dd j   (by omega)) (va_cwS 1 hts gX5_read_X5_isDay rfl rfl rfl (by decide +kernel) ⟨Nat.le_of_ble_eq_true rfl, Nat.le_of_ble_eq_true rfl⟩) hK hE hB hw rfl rfl hl.1 (Nat.le_of_ble_eq_true rfl) ⟨Nat.zero_le _, Nat.zero_le _⟩ dX5_read_11 (fun r_4 f_3 H locs hp hw => ?_)
  obtain ⟨er, eu⟩ := hp
  rw [← er]
  rw [← eu] at hw
  refine lv_if_ne (tgt := 20) hx hb dX5_read_14 (by decide) (fun _ => ?_) (fun h => absurd h (by decide))
  refine lv_aload_n hx hb dX5_read_20 rfl (lv_at hl 0 rfl) ?_
  refine lv_iload_n hx hb dX5_read_21 rfl (lv_at hl 1 rfl) ?_
  refine lv_iload_n hx hb dX5_read_22 rfl (lv_at hl 2 rfl) ?_
  have hRk : RepX ca ad n g z zn tb f := ⟨c_0,
        c_1,
        c_2,
        c_3,
        c_4,
        c_5,
        c_6,
        c_7,
        c_8,
        c_9,
        c_90,
        c_91,
        c_92,
        c_93,
        c_94,
        c_95,
        c_96,
        c_97,
        c_98,
        c_99,
        c_300,
        c_301,
        (fun i9 hi9 => by exact F_kf i9 hi9),
        (fun i9 hi9 => by exact F_oc i9 hi9),
        (fun i9 hi9 => by exact F_va i9 hi9),
        (fun i9 hi9 => by exact F_lw i9 hi9),
        (fun i9 hi9 => by exact F_M i9 hi9), hzn, hT⟩
  have hfr : ∀ y, 302 ≤ y → f y = f y := (fun _ _ => rfl)
  refine x_Vi (q := 0) (As := [.int (nI i), .int (nI j)]) (rest := []) ⟨hx, hb, hml, hown, hts⟩ (k_X5_check_no l D ca N ad B tR tK f dd hN n g z zn tb hRk i (nI j) (by omega) hsz (by omega) hf) (cwV 2 hts gX5_read_X5_check rfl rfl rfl (by decide +kernel) ⟨Nat.le_of_ble_eq_true rfl, Nat.le_of_ble_eq_true rfl⟩) hK hE hB hw (by omega) c_0 rfl rfl rfl rfl hl.1 (Nat.le_of_ble_eq_true rfl) ⟨Nat.zero_le _, Nat.zero_le _⟩ dX5_read_23 (fun r_6 f_5 H locs hp hw => ?_)
  obtain ⟨er, hp⟩ := hp
  rw [← er]
  obtain ⟨z_7, zn_8, hR2, hfr2⟩ := hp
  obtain ⟨n_9, en_9⟩ : ∃ x, x = va_up n 5 ((n 5) + 1) := ⟨_, rfl⟩
  obtain ⟨g_10, eg_10⟩ : ∃ x, x = va_up (va_up (va_up (va_up g 4 (upd (g 4) (n 5) (nI 2))) 5 (upd (g 5) (n 5) (nI i))) 6 (upd (g 6) (n 5) (nI j))) (1000 + (n 5)) (rowD (prevD (fun i8 => g (1000 + i8)) (n 5)) (nI 2) (nI i) (nI j)) := ⟨_, rfl⟩
  rw [← en_9, ← eg_10] at hR2
  have hfr : ∀ y, 302 ≤ y → f_5 y = f y := fun y hy => (hfr2 y hy).trans (hfr y hy)
  obtain ⟨c_0, c_1, c_2, c_3, c_4, c_5, c_6, c_7, c_8, c_9, c_90, c_91, c_92, c_93, c_94, c_95, c_96, c_97, c_98, c_99, c_300, c_301, F_kf, F_oc, F_va, F_lw, F_M, hzn, hT⟩ := hR2
  refine lv_if_eq (tgt := 33) hx hb dX5_read_26 (by decide) (fun _ => ?_) (fun h => False.elim (h (by decide)))
  refine lv_iconst (v := nI 0) hx hb dX5_read_33 (by decide) ?_
  have hRz : RepX ca ad n_9 g_10 z_7 zn_8 tb f_5 := ⟨c_0,
        c_1,
        c_2,
        c_3,
        c_4,
        c_5,
        c_6,
        c_7,
        c_8,
        c_9,
        c_90,
        c_91,
        c_92,
        c_93,
        c_94,
        c_95,
        c_96,
        c_97,
        c_98,
        c_99,
        c_300,
        c_301,
        (fun i9 hi9 => by exact F_kf i9 hi9),
        (fun i9 hi9 => by exact F_oc i9 hi9),
        (fun i9 hi9 => by exact F_va i9 hi9),
        (fun i9 hi9 => by exact F_lw i9 hi9),
        (fun i9 hi9 => by exact F_M i9 hi9), hzn, hT⟩
  exact x_iret hx hb hr hlocks hw ⟨rfl, z_7, zn_8, (by rw [eg_10, en_9] at hRz; exact hRz), (fun y hy => hfr y hy)⟩ dX5_read_34

set_option maxHeartbeats 4000000 in
set_option maxRecDepth 100000 in
theorem k_X5_read_noF (l : Launch) (D : va_G) (ca : Nat → ClassId) (N : Nat) (ad : Nat → Nat) (B tR tK : Nat) (f : Nat → va_E) (dd : xD N ad B) (hN : 302 ≤ N) (n : Nat → Nat) (g : Nat → Nat → Int32) (z : Nat → Nat → Int32) (zn : Nat) (tb : Nat → Int32) (hR : RepX ca ad n g z zn tb f) (i : Nat) (j : Nat) (h2 : n 2 ≤ 20) (hi : i < n 2) (hj : j ≤ 1000000) (hsz : ∀ i, i < 20 → n (10 + i) ≤ 200) (h5 : n 5 = 200) (hf : ¬ fitsX n g i i) : xMi l yX5_read wsX5_read rmX5_read [.ref (ad 0), .int (nI i), .int (nI j)] D ca N ad B tR tK f (fun r u => nI 0 = r ∧ ∃ (z1 : Nat → Nat → Int32) (zn1 : Nat), RepX ca ad n g z1 zn1 tb u ∧ ∀ y, 302 ≤ y → u y = f y) := by
  refine x_open (cc := cX5_read) (maxL := 3) (ret := (some .int)) (by decide) rfl (Nat.le_of_ble_eq_true rfl) ?_
  intro p e s m below meth c ls hx hb hml hown hts hr hlocks hnm hB hK hE hw hl
  have hown : s.vm.findClass RX5 = some m.cls := hown
  have hl : lv_has ls 3 [(0, .ref (ad 0)), (1, .int (nI i)), (2, .int (nI j))] := hl
  obtain ⟨c_0, c_1, c_2, c_3, c_4, c_5, c_6, c_7, c_8, c_9, c_90, c_91, c_92, c_93, c_94, c_95, c_96, c_97, c_98, c_99, c_300, c_301, F_kf, F_oc, F_va, F_lw, F_M, hzn, hT⟩ := hR
  have b_0 := c_0
  have b_1 := c_1
  have b_2 := c_2
  have b_3 := c_3
  have b_4 := c_4
  have b_5 := c_5
  have b_6 := c_6
  have b_7 := c_7
  have b_8 := c_8
  have b_9 := c_9
  have b_90 := c_90
  have b_91 := c_91
  have b_92 := c_92
  have b_93 := c_93
  have b_94 := c_94
  have b_95 := c_95
  have b_96 := c_96
  have b_97 := c_97
  have b_98 := c_98
  have b_99 := c_99
  have b_300 := c_300
  have b_301 := c_301
  refine lv_aload_n hx hb dX5_read_0 rfl (lv_at hl 0 rfl) ?_
  refine lv_iload_n hx hb dX5_read_1 rfl (lv_at hl 1 rfl) ?_
  have hRk : RepX ca ad n g z zn tb f := ⟨c_0,
        c_1,
        c_2,
        c_3,
        c_4,
        c_5,
        c_6,
        c_7,
        c_8,
        c_9,
        c_90,
        c_91,
        c_92,
        c_93,
        c_94,
        c_95,
        c_96,
        c_97,
        c_98,
        c_99,
        c_300,
        c_301,
        (fun i9 hi9 => by exact F_kf i9 hi9),
        (fun i9 hi9 => by exact F_oc i9 hi9),
        (fun i9 hi9 => by exact F_va i9 hi9),
        (fun i9 hi9 => by exact F_lw i9 hi9),
        (fun i9 hi9 => by exact F_M i9 hi9), hzn, hT⟩
  have hfr : ∀ y, 302 ≤ y → f y = f y := (fun _ _ => rfl)
  refine x_Vi (q := 0) (As := [.int (nI i)]) (rest := []) ⟨hx, hb, hml, hown, hts⟩ (k_X5_isFile_yes l D ca N ad B tR tK f dd hN n g z zn tb hRk i (by omega) (by omega)) (cwV 1 hts gX5_read_X5_isFile rfl rfl rfl (by decide +kernel) ⟨Nat.le_of_ble_eq_true rfl, Nat.le_of_ble_eq_true rfl⟩) hK hE hB hw (by omega) c_0 rfl rfl rfl rfl hl.1 (Nat.le_of_ble_eq_true rfl) ⟨Nat.zero_le _, Nat.zero_le _⟩ dX5_read_2 (fun r_2 f_1 H locs hp hw => ?_)
  obtain ⟨er, hp⟩ := hp
  rw [← er]
  rw [← hp] at hw
  refine lv_if_ne (tgt := 10) hx hb dX5_read_5 (by decide) (fun _ => ?_) (fun h => absurd h (by decide))
  refine lv_iload_n hx hb dX5_read_10 rfl (lv_at hl 2 rfl) ?_
  refine x_Si (As := [.int (nI j)]) (rest := []) ⟨hx, hb, hml, hown, hts⟩ (k_X5_isDay_yes l D ca N ad B tR tK f dd j   (by omega)) (va_cwS 1 hts gX5_read_X5_isDay rfl rfl rfl (by decide +kernel) ⟨Nat.le_of_ble_eq_true rfl, Nat.le_of_ble_eq_true rfl⟩) hK hE hB hw rfl rfl hl.1 (Nat.le_of_ble_eq_true rfl) ⟨Nat.zero_le _, Nat.zero_le _⟩ dX5_read_11 (fun r_4 f_3 H locs hp hw => ?_)
  obtain ⟨er, eu⟩ := hp
  rw [← er]
  rw [← eu] at hw
  refine lv_if_ne (tgt := 20) hx hb dX5_read_14 (by decide) (fun _ => ?_) (fun h => absurd h (by decide))
  refine lv_aload_n hx hb dX5_read_20 rfl (lv_at hl 0 rfl) ?_
  refine lv_iload_n hx hb dX5_read_21 rfl (lv_at hl 1 rfl) ?_
  refine lv_iload_n hx hb dX5_read_22 rfl (lv_at hl 2 rfl) ?_
  have hRk : RepX ca ad n g z zn tb f := ⟨c_0,
        c_1,
        c_2,
        c_3,
        c_4,
        c_5,
        c_6,
        c_7,
        c_8,
        c_9,
        c_90,
        c_91,
        c_92,
        c_93,
        c_94,
        c_95,
        c_96,
        c_97,
        c_98,
        c_99,
        c_300,
        c_301,
        (fun i9 hi9 => by exact F_kf i9 hi9),
        (fun i9 hi9 => by exact F_oc i9 hi9),
        (fun i9 hi9 => by exact F_va i9 hi9),
        (fun i9 hi9 => by exact F_lw i9 hi9),
        (fun i9 hi9 => by exact F_M i9 hi9), hzn, hT⟩
  have hfr : ∀ y, 302 ≤ y → f y = f y := (fun _ _ => rfl)
  refine x_Vi (q := 0) (As := [.int (nI i), .int (nI j)]) (rest := []) ⟨hx, hb, hml, hown, hts⟩ (k_X5_check_noF l D ca N ad B tR tK f dd hN n g z zn tb hRk i (nI j) (by omega) hsz (by omega) hf) (cwV 2 hts gX5_read_X5_check rfl rfl rfl (by decide +kernel) ⟨Nat.le_of_ble_eq_true rfl, Nat.le_of_ble_eq_true rfl⟩) hK hE hB hw (by omega) c_0 rfl rfl rfl rfl hl.1 (Nat.le_of_ble_eq_true rfl) ⟨Nat.zero_le _, Nat.zero_le _⟩ dX5_read_23 (fun r_6 f_5 H locs hp hw => ?_)
  obtain ⟨er, hp⟩ := hp
  rw [← er]
  obtain ⟨z_7, zn_8, hR2, hfr2⟩ := hp
  have hfr : ∀ y, 302 ≤ y → f_5 y = f y := fun y hy => (hfr2 y hy).trans (hfr y hy)
  obtain ⟨c_0, c_1, c_2, c_3, c_4, c_5, c_6, c_7, c_8, c_9, c_90, c_91, c_92, c_93, c_94, c_95, c_96, c_97, c_98, c_99, c_300, c_301, F_kf, F_oc, F_va, F_lw, F_M, hzn, hT⟩ := hR2
  refine lv_if_eq (tgt := 33) hx hb dX5_read_26 (by decide) (fun _ => ?_) (fun h => False.elim (h (by decide)))
  refine lv_iconst (v := nI 0) hx hb dX5_read_33 (by decide) ?_
  have hRz : RepX ca ad n g z_7 zn_8 tb f_5 := ⟨c_0,
        c_1,
        c_2,
        c_3,
        c_4,
        c_5,
        c_6,
        c_7,
        c_8,
        c_9,
        c_90,
        c_91,
        c_92,
        c_93,
        c_94,
        c_95,
        c_96,
        c_97,
        c_98,
        c_99,
        c_300,
        c_301,
        (fun i9 hi9 => by exact F_kf i9 hi9),
        (fun i9 hi9 => by exact F_oc i9 hi9),
        (fun i9 hi9 => by exact F_va i9 hi9),
        (fun i9 hi9 => by exact F_lw i9 hi9),
        (fun i9 hi9 => by exact F_M i9 hi9), hzn, hT⟩
  exact x_iret hx hb hr hlocks hw ⟨rfl, z_7, zn_8, hRz, (fun y hy => hfr y hy)⟩ dX5_read_34

abbrev rmX5_file : Room := { frames := 5, cells := 0, slots := 0, locals := 122 }

set_option maxHeartbeats 4000000 in
set_option maxRecDepth 100000 in
theorem k_X5_file_range (l : Launch) (D : va_G) (ca : Nat → ClassId) (N : Nat) (ad : Nat → Nat) (B tR tK : Nat) (f : Nat → va_E) (dd : xD N ad B) (hN : 302 ≤ N) (n : Nat → Nat) (g : Nat → Nat → Int32) (z : Nat → Nat → Int32) (zn : Nat) (tb : Nat → Int32) (hR : RepX ca ad n g z zn tb f) (x : Int32) (y : Int32) (ho : x < nI 1 ∨ nI 3 < x ∨ y < 0 ∨ nI 1000000 < y) : xMi l yX5_file wsX5_file rmX5_file [.ref (ad 0), .int x, .int y] D ca N ad B tR tK f (fun r u => (-2) = r ∧ ∃ (z1 : Nat → Nat → Int32) (zn1 : Nat), RepX ca ad n g z1 zn1 tb u ∧ ∀ y, 302 ≤ y → u y = f y) := by
  refine x_open (cc := cX5_file) (maxL := 5) (ret := (some .int)) (by decide) rfl (Nat.le_of_ble_eq_true rfl) ?_
  intro p e s m below meth c ls hx hb hml hown hts hr hlocks hnm hB hK hE hw hl
  have hown : s.vm.findClass RX5 = some m.cls := hown
  have hl : lv_has ls 5 [(0, .ref (ad 0)), (1, .int x), (2, .int y)] := hl
  obtain ⟨c_0, c_1, c_2, c_3, c_4, c_5, c_6, c_7, c_8, c_9, c_90, c_91, c_92, c_93, c_94, c_95, c_96, c_97, c_98, c_99, c_300, c_301, F_kf, F_oc, F_va, F_lw, F_M, hzn, hT⟩ := hR
  have b_0 := c_0
  have b_1 := c_1
  have b_2 := c_2
  have b_3 := c_3
  have b_4 := c_4
  have b_5 := c_5
  have b_6 := c_6
  have b_7 := c_7
  have b_8 := c_8
  have b_9 := c_9
  have b_90 := c_90
  have b_91 := c_91
  have b_92 := c_92
  have b_93 := c_93
  have b_94 := c_94
  have b_95 := c_95
  have b_96 := c_96
  have b_97 := c_97
  have b_98 := c_98
  have b_99 := c_99
  have b_300 := c_300
  have b_301 := c_301
  refine lv_iload_n hx hb dX5_file_0 rfl (lv_at hl 1 rfl) ?_
  refine lv_iconst (v := nI 1) hx hb dX5_file_1 (by decide) ?_
  refine lv_icmp_lt (tgt := 17) hx hb dX5_file_2 (by decide) (fun hc_2 => ?_) (fun hc_2 => ?_)
  · refine lv_bipush (v := (-2)) hx hb dX5_file_17 (by decide) ?_
    have hRz : RepX ca ad n g z zn tb f := ⟨c_0,
          c_1,
          c_2,
          c_3,
          c_4,
          c_5,
          c_6,
          c_7,
          c_8,
          c_9,
          c_90,
          c_91,
          c_92,
          c_93,
          c_94,
          c_95,
          c_96,
          c_97,
          c_98,
          c_99,
          c_300,
          c_301,
          (fun i9 hi9 => by exact F_kf i9 hi9),
          (fun i9 hi9 => by exact F_oc i9 hi9),
          (fun i9 hi9 => by exact F_va i9 hi9),
          (fun i9 hi9 => by exact F_lw i9 hi9),
          (fun i9 hi9 => by exact F_M i9 hi9), hzn, hT⟩
    exact x_iret hx hb hr hlocks hw ⟨rfl, z, zn, hRz, (fun _ _ => rfl)⟩ dX5_file_19
  · refine lv_iload_n hx hb dX5_file_5 rfl (lv_at hl 1 rfl) ?_
    refine lv_iconst (v := nI 3) hx hb dX5_file_6 (by decide) ?_
    refine lv_icmp_gt (tgt := 17) hx hb dX5_file_7 (by decide) (fun hc_7 => ?_) (fun hc_7 => ?_)
    · refine lv_bipush (v := (-2)) hx hb dX5_file_17 (by decide) ?_
      have hRz : RepX ca ad n g z zn tb f := ⟨c_0,
            c_1,
            c_2,
            c_3,
            c_4,
            c_5,
            c_6,
            c_7,
            c_8,
            c_9,
            c_90,
            c_91,
            c_92,
            c_93,
            c_94,
            c_95,
            c_96,
            c_97,
            c_98,
            c_99,
            c_300,
            c_301,
            (fun i9 hi9 => by exact F_kf i9 hi9),
            (fun i9 hi9 => by exact F_oc i9 hi9),
            (fun i9 hi9 => by exact F_va i9 hi9),
            (fun i9 hi9 => by exact F_lw i9 hi9),
            (fun i9 hi9 => by exact F_M i9 hi9), hzn, hT⟩
      exact x_iret hx hb hr hlocks hw ⟨rfl, z, zn, hRz, (fun _ _ => rfl)⟩ dX5_file_19
    · refine lv_iload_n hx hb dX5_file_10 rfl (lv_at hl 2 rfl) ?_
      refine x_Si (As := [.int y]) (rest := []) ⟨hx, hb, hml, hown, hts⟩ (k_X5_isDay_no l D ca N ad B tR tK f dd y   ((ho.resolve_left hc_2).resolve_left hc_7)) (va_cwS 1 hts gX5_file_X5_isDay rfl rfl rfl (by decide +kernel) ⟨Nat.le_of_ble_eq_true rfl, Nat.le_of_ble_eq_true rfl⟩) hK hE hB hw rfl rfl hl.1 (Nat.le_of_ble_eq_true rfl) ⟨Nat.zero_le _, Nat.zero_le _⟩ dX5_file_11 (fun r_2 f_1 H locs hp hw => ?_)
      obtain ⟨er, eu⟩ := hp
      rw [← er]
      rw [← eu] at hw
      refine lv_if_ne (tgt := 20) hx hb dX5_file_14 (by decide) (fun h => False.elim (h (by decide))) (fun _ => ?_)
      refine lv_bipush (v := (-2)) hx hb dX5_file_17 (by decide) ?_
      have hRz : RepX ca ad n g z zn tb f := ⟨c_0,
            c_1,
            c_2,
            c_3,
            c_4,
            c_5,
            c_6,
            c_7,
            c_8,
            c_9,
            c_90,
            c_91,
            c_92,
            c_93,
            c_94,
            c_95,
            c_96,
            c_97,
            c_98,
            c_99,
            c_300,
            c_301,
            (fun i9 hi9 => by exact F_kf i9 hi9),
            (fun i9 hi9 => by exact F_oc i9 hi9),
            (fun i9 hi9 => by exact F_va i9 hi9),
            (fun i9 hi9 => by exact F_lw i9 hi9),
            (fun i9 hi9 => by exact F_M i9 hi9), hzn, hT⟩
      exact x_iret hx hb hr hlocks hw ⟨rfl, z, zn, hRz, (fun _ _ => rfl)⟩ dX5_file_19

set_option maxHeartbeats 4000000 in
set_option maxRecDepth 100000 in
theorem k_X5_file_full (l : Launch) (D : va_G) (ca : Nat → ClassId) (N : Nat) (ad : Nat → Nat) (B tR tK : Nat) (f : Nat → va_E) (dd : xD N ad B) (hN : 302 ≤ N) (n : Nat → Nat) (g : Nat → Nat → Int32) (z : Nat → Nat → Int32) (zn : Nat) (tb : Nat → Int32) (hR : RepX ca ad n g z zn tb f) (a : Nat) (j : Nat) (ha1 : 1 ≤ a) (ha2 : a ≤ 3) (hj : j ≤ 1000000) (h2 : n 2 = 20) : xMi l yX5_file wsX5_file rmX5_file [.ref (ad 0), .int (nI a), .int (nI j)] D ca N ad B tR tK f (fun r u => (-4) = r ∧ ∃ (z1 : Nat → Nat → Int32) (zn1 : Nat), RepX ca ad n g z1 zn1 tb u ∧ ∀ y, 302 ≤ y → u y = f y) := by
  refine x_open (cc := cX5_file) (maxL := 5) (ret := (some .int)) (by decide) rfl (Nat.le_of_ble_eq_true rfl) ?_
  intro p e s m below meth c ls hx hb hml hown hts hr hlocks hnm hB hK hE hw hl
  have hown : s.vm.findClass RX5 = some m.cls := hown
  have hl : lv_has ls 5 [(0, .ref (ad 0)), (1, .int (nI a)), (2, .int (nI j))] := hl
  obtain ⟨c_0, c_1, c_2, c_3, c_4, c_5, c_6, c_7, c_8, c_9, c_90, c_91, c_92, c_93, c_94, c_95, c_96, c_97, c_98, c_99, c_300, c_301, F_kf, F_oc, F_va, F_lw, F_M, hzn, hT⟩ := hR
  have hin_6 : ∀ w ∈ u_ws RX5 TX5 13, w ∈ wsX5_file := by decide +kernel
  have hf_100 := hts (.fieldLink RX5 100 "FixityRows" "fileCount" "I") (by decide +kernel)
  have b_0 := c_0
  have b_1 := c_1
  have b_2 := c_2
  have b_3 := c_3
  have b_4 := c_4
  have b_5 := c_5
  have b_6 := c_6
  have b_7 := c_7
  have b_8 := c_8
  have b_9 := c_9
  have b_90 := c_90
  have b_91 := c_91
  have b_92 := c_92
  have b_93 := c_93
  have b_94 := c_94
  have b_95 := c_95
  have b_96 := c_96
  have b_97 := c_97
  have b_98 := c_98
  have b_99 := c_99
  have b_300 := c_300
  have b_301 := c_301
  refine lv_iload_n hx hb dX5_file_0 rfl (lv_at hl 1 rfl) ?_
  refine lv_iconst (v := nI 1) hx hb dX5_file_1 (by decide) ?_
  refine n_iclt (tgt := 17) hx hb dX5_file_2 (by decide) (by omega) (by omega) (fun hc_2 => ?_) (fun hc_2 => ?_)
  · omega
  · refine lv_iload_n hx hb dX5_file_5 rfl (lv_at hl 1 rfl) ?_
    refine lv_iconst (v := nI 3) hx hb dX5_file_6 (by decide) ?_
    refine n_icgt (tgt := 17) hx hb dX5_file_7 (by decide) (by omega) (by omega) (fun hc_7 => ?_) (fun hc_7 => ?_)
    · omega
    · refine lv_iload_n hx hb dX5_file_10 rfl (lv_at hl 2 rfl) ?_
      refine x_Si (As := [.int (nI j)]) (rest := []) ⟨hx, hb, hml, hown, hts⟩ (k_X5_isDay_yes l D ca N ad B tR tK f dd j   (by omega)) (va_cwS 1 hts gX5_file_X5_isDay rfl rfl rfl (by decide +kernel) ⟨Nat.le_of_ble_eq_true rfl, Nat.le_of_ble_eq_true rfl⟩) hK hE hB hw rfl rfl hl.1 (Nat.le_of_ble_eq_true rfl) ⟨Nat.zero_le _, Nat.zero_le _⟩ dX5_file_11 (fun r_2 f_1 H locs hp hw => ?_)
      obtain ⟨er, eu⟩ := hp
      rw [← er]
      rw [← eu] at hw
      refine lv_if_ne (tgt := 20) hx hb dX5_file_14 (by decide) (fun _ => ?_) (fun h => absurd h (by decide))
      refine lv_aload_n hx hb dX5_file_20 rfl (lv_at hl 0 rfl) ?_
      refine x_get (ci := 6) (C := RX5) (T := TX5) (n := 13) (ref := RX5) hx hb hts hin_6 hown hK hw 0 (by omega) c_0 rfl 7 (by decide) hf_100 (fun _ h => h) rfl dX5_file_21 ?_
      refine lv_bipush (v := nI 20) hx hb dX5_file_24 (by decide) ?_
      refine n_iclt (tgt := 32) hx hb dX5_file_26 (by decide) (by omega) (by omega) (fun hc_26 => ?_) (fun hc_26 => ?_)
      · omega
      · refine lv_bipush (v := (-4)) hx hb dX5_file_29 (by decide) ?_
        have hRz : RepX ca ad n g z zn tb f := ⟨c_0,
              c_1,
              c_2,
              c_3,
              c_4,
              c_5,
              c_6,
              c_7,
              c_8,
              c_9,
              c_90,
              c_91,
              c_92,
              c_93,
              c_94,
              c_95,
              c_96,
              c_97,
              c_98,
              c_99,
              c_300,
              c_301,
              (fun i9 hi9 => by exact F_kf i9 hi9),
              (fun i9 hi9 => by exact F_oc i9 hi9),
              (fun i9 hi9 => by exact F_va i9 hi9),
              (fun i9 hi9 => by exact F_lw i9 hi9),
              (fun i9 hi9 => by exact F_M i9 hi9), hzn, hT⟩
        exact x_iret hx hb hr hlocks hw ⟨rfl, z, zn, hRz, (fun _ _ => rfl)⟩ dX5_file_31

set_option maxHeartbeats 4000000 in
set_option maxRecDepth 100000 in
theorem k_X5_file_in (l : Launch) (D : va_G) (ca : Nat → ClassId) (N : Nat) (ad : Nat → Nat) (B tR tK : Nat) (f : Nat → va_E) (dd : xD N ad B) (hN : 302 ≤ N) (n : Nat → Nat) (g : Nat → Nat → Int32) (z : Nat → Nat → Int32) (zn : Nat) (tb : Nat → Int32) (hR : RepX ca ad n g z zn tb f) (a : Nat) (j : Nat) (ha1 : 1 ≤ a) (ha2 : a ≤ 3) (hj : j ≤ 1000000) (h2 : n 2 < 20) (h4 : n 4 ≤ 200) (hsz : ∀ i, i < 20 → n (10 + i) ≤ 200) (h5 : n 5 < 200) : xMi l yX5_file wsX5_file rmX5_file [.ref (ad 0), .int (nI a), .int (nI j)] D ca N ad B tR tK f (fun r u => nI (n 2) = r ∧ ∃ (z1 : Nat → Nat → Int32) (zn1 : Nat), RepX ca ad (va_up (va_up (va_up (va_up n 2 ((n 2) + 1)) 4 0) 5 ((n 5) + 1)) (10 + (n 2)) (n 4)) (va_up (va_up (va_up (va_up (va_up (va_up (va_up (va_up g 4 (upd (g 4) (n 5) (nI 0))) 5 (upd (g 5) (n 5) (nI (n 2)))) 6 (upd (g 6) (n 5) (nI j))) 7 (upd (g 7) (n 2) (crc (n 4) (g 0)))) 8 (upd (g 8) (n 2) (nI a))) (100 + (n 2)) (cpyTo (g (100 + (n 2))) (g 0) (n 4))) (200 + (n 2)) (sha (n 4) (g 0))) (1000 + (n 5)) (rowD (prevD (fun i8 => g (1000 + i8)) (n 5)) (nI 0) (nI (n 2)) (nI j))) z1 zn1 tb u ∧ ∀ y, 302 ≤ y → u y = f y) := by
  refine x_open (cc := cX5_file) (maxL := 5) (ret := (some .int)) (by decide) rfl (Nat.le_of_ble_eq_true rfl) ?_
  intro p e s m below meth c ls hx hb hml hown hts hr hlocks hnm hB hK hE hw hl
  have hown : s.vm.findClass RX5 = some m.cls := hown
  have hl : lv_has ls 5 [(0, .ref (ad 0)), (1, .int (nI a)), (2, .int (nI j))] := hl
  obtain ⟨c_0, c_1, c_2, c_3, c_4, c_5, c_6, c_7, c_8, c_9, c_90, c_91, c_92, c_93, c_94, c_95, c_96, c_97, c_98, c_99, c_300, c_301, F_kf, F_oc, F_va, F_lw, F_M, hzn, hT⟩ := hR
  have hin_6 : ∀ w ∈ u_ws RX5 TX5 13, w ∈ wsX5_file := by decide +kernel
  have hf_100 := hts (.fieldLink RX5 100 "FixityRows" "fileCount" "I") (by decide +kernel)
  have hf_49 := hts (.fieldLink RX5 49 "FixityRows" "files" "[LFixityRows$KeptFile;") (by decide +kernel)
  have hin_1 : ∀ w ∈ u_ws RX0 TX0 8, w ∈ wsX5_file := by decide +kernel
  have hf_39 := hts (.fieldLink RX5 39 "FixityRows" "collected" "LFixityRows$Octets;") (by decide +kernel)
  have hf_25 := hts (.fieldLink RX5 25 "FixityRows" "longDigest" "LFixityRows$LongDigest;") (by decide +kernel)
  have hf_32 := hts (.fieldLink RX5 32 "FixityRows" "shortDigest" "LFixityRows$ShortDigest;") (by decide +kernel)
  have hf_57 := hts (.fieldLink RX5 57 "FixityRows" "rows" "LFixityRows$RowChain;") (by decide +kernel)
  have b_0 := c_0
  have b_1 := c_1
  have b_2 := c_2
  have b_3 := c_3
  have b_4 := c_4
  have b_5 := c_5
  have b_6 := c_6
  have b_7 := c_7
  have b_8 := c_8
  have b_9 := c_9
  have b_90 := c_90
  have b_91 := c_91
  have b_92 := c_92
  have b_93 := c_93
  have b_94 := c_94
  have b_95 := c_95
  have b_96 := c_96
  have b_97 := c_97
  have b_98 := c_98
  have b_99 := c_99
  have b_300 := c_300
  have b_301 := c_301
  refine lv_iload_n hx hb dX5_file_0 rfl (lv_at hl 1 rfl) ?_
  refine lv_iconst (v := nI 1) hx hb dX5_file_1 (by decide) ?_
  refine n_iclt (tgt := 17) hx hb dX5_file_2 (by decide) (by omega) (by omega) (fun hc_2 => ?_) (fun hc_2 => ?_)
  · omega
  · refine lv_iload_n hx hb dX5_file_5 rfl (lv_at hl 1 rfl) ?_
    refine lv_iconst (v := nI 3) hx hb dX5_file_6 (by decide) ?_
    refine n_icgt (tgt := 17) hx hb dX5_file_7 (by decide) (by omega) (by omega) (fun hc_7 => ?_) (fun hc_7 => ?_)
    · omega
    · refine lv_iload_n hx hb dX5_file_10 rfl (lv_at hl 2 rfl) ?_
      refine x_Si (As := [.int (nI j)]) (rest := []) ⟨hx, hb, hml, hown, hts⟩ (k_X5_isDay_yes l D ca N ad B tR tK f dd j   (by omega)) (va_cwS 1 hts gX5_file_X5_isDay rfl rfl rfl (by decide +kernel) ⟨Nat.le_of_ble_eq_true rfl, Nat.le_of_ble_eq_true rfl⟩) hK hE hB hw rfl rfl hl.1 (Nat.le_of_ble_eq_true rfl) ⟨Nat.zero_le _, Nat.zero_le _⟩ dX5_file_11 (fun r_2 f_1 H locs hp hw => ?_)
      obtain ⟨er, eu⟩ := hp
      rw [← er]
      rw [← eu] at hw
      refine lv_if_ne (tgt := 20) hx hb dX5_file_14 (by decide) (fun _ => ?_) (fun h => absurd h (by decide))
      refine lv_aload_n hx hb dX5_file_20 rfl (lv_at hl 0 rfl) ?_
      refine x_get (ci := 6) (C := RX5) (T := TX5) (n := 13) (ref := RX5) hx hb hts hin_6 hown hK hw 0 (by omega) c_0 rfl 7 (by decide) hf_100 (fun _ h => h) rfl dX5_file_21 ?_
      refine lv_bipush (v := nI 20) hx hb dX5_file_24 (by decide) ?_
      refine n_iclt (tgt := 32) hx hb dX5_file_26 (by decide) (by omega) (by omega) (fun hc_26 => ?_) (fun hc_26 => ?_)
      · refine lv_aload_n hx hb dX5_file_32 rfl (lv_at hl 0 rfl) ?_
        refine x_get (ci := 6) (C := RX5) (T := TX5) (n := 13) (ref := RX5) hx hb hts hin_6 hown hK hw 0 (by omega) c_0 rfl 7 (by decide) hf_100 (fun _ h => h) rfl dX5_file_33 ?_
        refine lv_istore_n (lv' := [(3, .int (nI (n 2))), (0, .ref (ad 0)), (1, .int (nI a)), (2, .int (nI j))]) hx hb dX5_file_36 rfl hl (by decide) rfl (fun ls hl => ?_)
        refine lv_aload_n hx hb dX5_file_37 rfl (lv_at hl 1 rfl) ?_
        refine x_get (ci := 6) (C := RX5) (T := TX5) (n := 13) (ref := RX5) hx hb hts hin_6 hown hK hw 0 (by omega) c_0 rfl 6 (by decide) hf_49 (fun _ h => h) rfl dX5_file_38 ?_
        refine lv_iload_n hx hb dX5_file_41 rfl (lv_at hl 0 rfl) ?_
        refine x_aald (j := n 2) (a := ad (10 + 4 * (n 2))) hx hb hK hw 9 3 (by omega) c_9 rfl rfl (by omega) (by decide) rfl dX5_file_42 ?_
        refine lv_astore (lv' := [(4, .ref (ad (10 + 4 * (n 2)))), (3, .int (nI (n 2))), (0, .ref (ad 0)), (1, .int (nI a)), (2, .int (nI j))]) hx hb dX5_file_43 hl (by decide) rfl (fun ls hl => ?_)
        refine lv_aload hx hb dX5_file_45 (lv_at hl 0 rfl) ?_
        have c_10_4_n_2 : f (10 + 4 * (n 2)) = .inr (1, [.ref (ad (11 + 4 * (n 2))), .ref (ad (13 + 4 * (n 2))), .int (g 7 (n 2)), .int (g 8 (n 2)), .int (g 9 (n 2)), .int (g 10 (n 2)), .int (g 11 (n 2)), .int (g 12 (n 2))]) := (F_kf (n 2) (by omega))
        refine x_getN (ci := 1) (C := RX0) (T := TX0) (n := 8) (ref := RX0) hx hb hts hin_1 hown hK hw (10 + 4 * (n 2)) (by omega) c_10_4_n_2 rfl 0 (by decide) (hE.1 (103, "octets", "LFixityRows$Octets;") (by decide)) (fun _ h => h) rfl dX5_file_47 ?_
        refine lv_aload_n hx hb dX5_file_50 rfl (lv_at hl 2 rfl) ?_
        refine x_get (ci := 6) (C := RX5) (T := TX5) (n := 13) (ref := RX5) hx hb hts hin_6 hown hK hw 0 (by omega) c_0 rfl 3 (by decide) hf_39 (fun _ h => h) rfl dX5_file_51 ?_
        have c_11_4_n_2 : f (11 + 4 * (n 2)) = .inr (3, [.ref (ad (12 + 4 * (n 2))), .int (nI (n (10 + (n 2))))]) := (F_oc (n 2) (by omega))
        have c_12_4_n_2 : f (12 + 4 * (n 2)) = ai (ca 0) 200 (g (100 + (n 2))) := (F_va (n 2) (by omega))
        refine x_Vv (q := 11 + 4 * (n 2)) (As := [.ref (ad 6)]) (rest := []) ⟨hx, hb, hml, hown, hts⟩ (k_X2_copyFrom l D ca N ad B tR tK f dd (11 + 4 * (n 2)) (12 + 4 * (n 2)) (n (10 + (n 2))) (g (100 + (n 2))) 6 7 (n 4) (g 0) (by omega) c_11_4_n_2 (by omega) c_12_4_n_2 (by omega) c_6 (by omega) c_7  (by omega) (by omega) (by omega)) (cwV 1 hts gX5_file_X2_copyFrom rfl rfl rfl (by decide +kernel) ⟨Nat.le_of_ble_eq_true rfl, Nat.le_of_ble_eq_true rfl⟩) hK hE hB hw (by omega) c_11_4_n_2 rfl rfl rfl rfl hl.1 (Nat.le_of_ble_eq_true rfl) ⟨Nat.zero_le _, Nat.zero_le _⟩ dX5_file_54 (fun f_3 H locs hp hw => ?_)
        have eu := hp
        have ef_3 : f_3 = va_up (va_up f (11 + 4 * (n 2)) (.inr (3, [.ref (ad (12 + 4 * (n 2))), .int (nI (n 4))]))) (12 + 4 * (n 2)) (ai (ca 0) 200 (cpyTo (g (100 + (n 2))) (g 0) (n 4))) := eu
        have c_11_4_n_2 : f_3 (11 + 4 * (n 2)) = .inr (3, [.ref (ad (12 + 4 * (n 2))), .int (nI (n 4))]) := by rw [ef_3, va_up_ne _ _ (by omega), va_up_self]
        have c_12_4_n_2 : f_3 (12 + 4 * (n 2)) = ai (ca 0) 200 (cpyTo (g (100 + (n 2))) (g 0) (n 4)) := by rw [ef_3, va_up_self]
        refine lv_aload hx hb dX5_file_57 (lv_at hl 0 rfl) ?_
        refine lv_iload_n hx hb dX5_file_59 rfl (lv_at hl 3 rfl) ?_
        have c_10_4_n_2 : f_3 (10 + 4 * (n 2)) = .inr (1, [.ref (ad (11 + 4 * (n 2))), .ref (ad (13 + 4 * (n 2))), .int (g 7 (n 2)), .int (g 8 (n 2)), .int (g 9 (n 2)), .int (g 10 (n 2)), .int (g 11 (n 2)), .int (g 12 (n 2))]) := by rw [ef_3, va_up_ne _ _ (by omega), va_up_ne _ _ (by omega)]; exact c_10_4_n_2
        refine x_putN (ci := 1) (C := RX0) (T := TX0) (n := 8) (ref := RX0) (fs' := [.ref (ad (11 + 4 * (n 2))), .ref (ad (13 + 4 * (n 2))), .int (g 7 (n 2)), .int (nI a), .int (g 9 (n 2)), .int (g 10 (n 2)), .int (g 11 (n 2)), .int (g 12 (n 2))]) hx hb hts hin_1 tyX0 tyX0_ok nmX0 hown hK dd hw (10 + 4 * (n 2)) (by omega) c_10_4_n_2 rfl 3 (by decide) (hE.1 (109, "algorithms", "I") (by decide)) (fun _ h => h) rfl rfl rfl (Nat.le_of_ble_eq_true rfl) rfl dX5_file_60 (fun H locs hw => ?_)
        obtain ⟨f_5, ef_5⟩ : ∃ z, z = va_up f_3 (10 + 4 * (n 2)) (.inr (1, [.ref (ad (11 + 4 * (n 2))), .ref (ad (13 + 4 * (n 2))), .int (g 7 (n 2)), .int (nI a), .int (g 9 (n 2)), .int (g 10 (n 2)), .int (g 11 (n 2)), .int (g 12 (n 2))])) := ⟨_, rfl⟩
        have hw : xw D vwCl N ad B s.heap f_5 H locs := by rw [ef_5]; exact hw
        have c_10_4_n_2 : f_5 (10 + 4 * (n 2)) = .inr (1, [.ref (ad (11 + 4 * (n 2))), .ref (ad (13 + 4 * (n 2))), .int (g 7 (n 2)), .int (nI a), .int (g 9 (n 2)), .int (g 10 (n 2)), .int (g 11 (n 2)), .int (g 12 (n 2))]) := va_up_of ef_5
        refine lv_aload_n hx hb dX5_file_63 rfl (lv_at hl 2 rfl) ?_
        have c_0 : f_5 0 = .inr (6, [.int (nI (n 0)), .ref (ad 1), .ref (ad 4), .ref (ad 6), .ref (ad 8), .int (nI (n 1)), .ref (ad 9), .int (nI (n 2)), .ref (ad 90), .ref (ad 300), .ref (ad 301), .int (nI (n 3)), .int (g 13 0)]) := by rw [ef_5, va_up_ne _ _ (by omega), ef_3, va_up_ne _ _ (by omega), va_up_ne _ _ (by omega)]; exact c_0
        refine x_get (ci := 6) (C := RX5) (T := TX5) (n := 13) (ref := RX5) hx hb hts hin_6 hown hK hw 0 (by omega) c_0 rfl 1 (by decide) hf_25 (fun _ h => h) rfl dX5_file_64 ?_
        refine lv_aload_n hx hb dX5_file_67 rfl (lv_at hl 2 rfl) ?_
        refine x_get (ci := 6) (C := RX5) (T := TX5) (n := 13) (ref := RX5) hx hb hts hin_6 hown hK hw 0 (by omega) c_0 rfl 3 (by decide) hf_39 (fun _ h => h) rfl dX5_file_68 ?_
        have c_1 : f_5 1 = .inr (2, [.ref (ad 2), .ref (ad 3)]) := by rw [ef_5, va_up_ne _ _ (by omega), ef_3, va_up_ne _ _ (by omega), va_up_ne _ _ (by omega)]; exact c_1
        have c_2 : f_5 2 = ai (ca 0) 8 (z 0) := by rw [ef_5, va_up_ne _ _ (by omega), ef_3, va_up_ne _ _ (by omega), va_up_ne _ _ (by omega)]; exact c_2
        have c_3 : f_5 3 = ai (ca 0) 64 (z 1) := by rw [ef_5, va_up_ne _ _ (by omega), ef_3, va_up_ne _ _ (by omega), va_up_ne _ _ (by omega)]; exact c_3
        have c_6 : f_5 6 = .inr (3, [.ref (ad 7), .int (nI (n 4))]) := by rw [ef_5, va_up_ne _ _ (by omega), ef_3, va_up_ne _ _ (by omega), va_up_ne _ _ (by omega)]; exact c_6
        have c_7 : f_5 7 = ai (ca 0) 200 (g 0) := by rw [ef_5, va_up_ne _ _ (by omega), ef_3, va_up_ne _ _ (by omega), va_up_ne _ _ (by omega)]; exact c_7
        refine x_Vv (q := 1) (As := [.ref (ad 6)]) (rest := []) ⟨hx, hb, hml, hown, hts⟩ (k_X1_compute l D ca N ad B tR tK f_5 dd 1 2 3 (z 0) (z 1) 6 7 (n 4) (g 0) (by omega) c_1 (by omega) c_2 (by omega) c_3 (by omega) c_6 (by omega) c_7  (by omega) (by omega) (by omega) (by omega)) (cwV 1 hts gX5_file_X1_compute rfl rfl rfl (by decide +kernel) ⟨Nat.le_of_ble_eq_true rfl, Nat.le_of_ble_eq_true rfl⟩) hK hE hB hw (by omega) c_1 rfl rfl rfl rfl hl.1 (Nat.le_of_ble_eq_true rfl) ⟨Nat.zero_le _, Nat.zero_le _⟩ dX5_file_71 (fun f_6 H locs hp hw => ?_)
        obtain ⟨w1_8, e1_9, hq_10, eu⟩ := hp
        have ef_6 : f_6 = va_up (va_up f_5 3 (ai (ca 0) 64 w1_8)) 2 (ai (ca 0) 8 e1_9) := eu
        have c_3 : f_6 3 = ai (ca 0) 64 w1_8 := by rw [ef_6, va_up_ne _ _ (by decide), va_up_self]
        have c_2 : f_6 2 = ai (ca 0) 8 e1_9 := by rw [ef_6, va_up_self]
        refine lv_aload_n hx hb dX5_file_74 rfl (lv_at hl 2 rfl) ?_
        have c_0 : f_6 0 = .inr (6, [.int (nI (n 0)), .ref (ad 1), .ref (ad 4), .ref (ad 6), .ref (ad 8), .int (nI (n 1)), .ref (ad 9), .int (nI (n 2)), .ref (ad 90), .ref (ad 300), .ref (ad 301), .int (nI (n 3)), .int (g 13 0)]) := by rw [ef_6, va_up_ne _ _ (by decide), va_up_ne _ _ (by decide)]; exact c_0
        refine x_get (ci := 6) (C := RX5) (T := TX5) (n := 13) (ref := RX5) hx hb hts hin_6 hown hK hw 0 (by omega) c_0 rfl 1 (by decide) hf_25 (fun _ h => h) rfl dX5_file_75 ?_
        refine lv_aload hx hb dX5_file_78 (lv_at hl 0 rfl) ?_
        have c_10_4_n_2 : f_6 (10 + 4 * (n 2)) = .inr (1, [.ref (ad (11 + 4 * (n 2))), .ref (ad (13 + 4 * (n 2))), .int (g 7 (n 2)), .int (nI a), .int (g 9 (n 2)), .int (g 10 (n 2)), .int (g 11 (n 2)), .int (g 12 (n 2))]) := by rw [ef_6, va_up_ne _ _ (by omega), va_up_ne _ _ (by omega)]; exact c_10_4_n_2
        refine x_getN (ci := 1) (C := RX0) (T := TX0) (n := 8) (ref := RX0) hx hb hts hin_1 hown hK hw (10 + 4 * (n 2)) (by omega) c_10_4_n_2 rfl 1 (by decide) (hE.1 (112, "longWords", "[I") (by decide)) (fun _ h => h) rfl dX5_file_80 ?_
        have c_1 : f_6 1 = .inr (2, [.ref (ad 2), .ref (ad 3)]) := by rw [ef_6, va_up_ne _ _ (by decide), va_up_ne _ _ (by decide)]; exact c_1
        have c_13_4_n_2 : f_6 (13 + 4 * (n 2)) = ai (ca 0) 8 (g (200 + (n 2))) := by rw [ef_6, va_up_ne _ _ (by omega), va_up_ne _ _ (by omega), ef_5, va_up_ne _ _ (by omega), ef_3, va_up_ne _ _ (by omega), va_up_ne _ _ (by omega)]; exact (F_lw (n 2) (by omega))
        refine x_Vv (q := 1) (As := [.ref (ad (13 + 4 * (n 2)))]) (rest := []) ⟨hx, hb, hml, hown, hts⟩ (k_X1_copyTo l D ca N ad B tR tK f_6 dd 1 2 3 e1_9 (13 + 4 * (n 2)) (g (200 + (n 2))) (by omega) c_1 (by omega) c_2 (by omega) c_13_4_n_2  (by omega)) (cwV 1 hts gX5_file_X1_copyTo rfl rfl rfl (by decide +kernel) ⟨Nat.le_of_ble_eq_true rfl, Nat.le_of_ble_eq_true rfl⟩) hK hE hB hw (by omega) c_1 rfl rfl rfl rfl hl.1 (Nat.le_of_ble_eq_true rfl) ⟨Nat.zero_le _, Nat.zero_le _⟩ dX5_file_83 (fun f_11 H locs hp hw => ?_)
        have eu := hp
        have ef_11 : f_11 = va_up f_6 (13 + 4 * (n 2)) (ai (ca 0) 8 (cpyTo (g (200 + (n 2))) e1_9 8)) := eu
        have c_13_4_n_2 : f_11 (13 + 4 * (n 2)) = ai (ca 0) 8 (cpyTo (g (200 + (n 2))) e1_9 8) := by rw [ef_11, va_up_self]
        obtain ⟨f_13, ef_13⟩ : ∃ z, z = va_up f_6 (13 + 4 * (n 2)) (ai (ca 0) 8 (sha (n 4) (g 0))) := ⟨_, rfl⟩
        have hw : xw D vwCl N ad B s.heap f_13 H locs := by rw [ef_13]; exact xw.arr (by rw [← ef_11]; exact hw) (fun j hj => by rw [cp_in hj, hq_10 j hj])
        have c_13_4_n_2 : f_13 (13 + 4 * (n 2)) = ai (ca 0) 8 (sha (n 4) (g 0)) := va_up_of ef_13
        refine lv_aload hx hb dX5_file_86 (lv_at hl 0 rfl) ?_
        refine lv_aload_n hx hb dX5_file_88 rfl (lv_at hl 2 rfl) ?_
        have c_0 : f_13 0 = .inr (6, [.int (nI (n 0)), .ref (ad 1), .ref (ad 4), .ref (ad 6), .ref (ad 8), .int (nI (n 1)), .ref (ad 9), .int (nI (n 2)), .ref (ad 90), .ref (ad 300), .ref (ad 301), .int (nI (n 3)), .int (g 13 0)]) := by rw [ef_13, va_up_ne _ _ (by omega)]; exact c_0
        refine x_get (ci := 6) (C := RX5) (T := TX5) (n := 13) (ref := RX5) hx hb hts hin_6 hown hK hw 0 (by omega) c_0 rfl 2 (by decide) hf_32 (fun _ h => h) rfl dX5_file_89 ?_
        refine lv_aload_n hx hb dX5_file_92 rfl (lv_at hl 2 rfl) ?_
        refine x_get (ci := 6) (C := RX5) (T := TX5) (n := 13) (ref := RX5) hx hb hts hin_6 hown hK hw 0 (by omega) c_0 rfl 3 (by decide) hf_39 (fun _ h => h) rfl dX5_file_93 ?_
        have c_4 : f_13 4 = .inr (5, [.ref (ad 5)]) := by rw [ef_13, va_up_ne _ _ (by omega), ef_6, va_up_ne _ _ (by decide), va_up_ne _ _ (by decide), ef_5, va_up_ne _ _ (by omega), ef_3, va_up_ne _ _ (by omega), va_up_ne _ _ (by omega)]; exact c_4
        have c_5 : f_13 5 = ai (ca 0) 256 tb := by rw [ef_13, va_up_ne _ _ (by omega), ef_6, va_up_ne _ _ (by decide), va_up_ne _ _ (by decide), ef_5, va_up_ne _ _ (by omega), ef_3, va_up_ne _ _ (by omega), va_up_ne _ _ (by omega)]; exact c_5
        have c_6 : f_13 6 = .inr (3, [.ref (ad 7), .int (nI (n 4))]) := by rw [ef_13, va_up_ne _ _ (by omega), ef_6, va_up_ne _ _ (by decide), va_up_ne _ _ (by decide)]; exact c_6
        have c_7 : f_13 7 = ai (ca 0) 200 (g 0) := by rw [ef_13, va_up_ne _ _ (by omega), ef_6, va_up_ne _ _ (by decide), va_up_ne _ _ (by decide)]; exact c_7
        refine x_Vi (q := 4) (As := [.ref (ad 6)]) (rest := [.ref (ad (10 + 4 * (n 2)))]) ⟨hx, hb, hml, hown, hts⟩ (k_X4_compute l D ca N ad B tR tK f_13 dd 4 5 tb 6 7 (n 4) (g 0) (by omega) c_4 (by omega) c_5 (by omega) c_6 (by omega) c_7  (by omega) hT) (cwV 1 hts gX5_file_X4_compute rfl rfl rfl (by decide +kernel) ⟨Nat.le_of_ble_eq_true rfl, Nat.le_of_ble_eq_true rfl⟩) hK hE hB hw (by omega) c_4 rfl rfl rfl rfl hl.1 (Nat.le_of_ble_eq_true rfl) ⟨Nat.zero_le _, Nat.zero_le _⟩ dX5_file_96 (fun r_15 f_14 H locs hp hw => ?_)
        obtain ⟨er, eu⟩ := hp
        rw [← er]
        rw [← eu] at hw
        refine lv_topi (fun x_16 ex_16 => ?_)
        have c_10_4_n_2 : f_13 (10 + 4 * (n 2)) = .inr (1, [.ref (ad (11 + 4 * (n 2))), .ref (ad (13 + 4 * (n 2))), .int (g 7 (n 2)), .int (nI a), .int (g 9 (n 2)), .int (g 10 (n 2)), .int (g 11 (n 2)), .int (g 12 (n 2))]) := by rw [ef_13, va_up_ne _ _ (by omega)]; exact c_10_4_n_2
        refine x_putN (ci := 1) (C := RX0) (T := TX0) (n := 8) (ref := RX0) (fs' := [.ref (ad (11 + 4 * (n 2))), .ref (ad (13 + 4 * (n 2))), .int x_16, .int (nI a), .int (g 9 (n 2)), .int (g 10 (n 2)), .int (g 11 (n 2)), .int (g 12 (n 2))]) hx hb hts hin_1 tyX0 tyX0_ok nmX0 hown hK dd hw (10 + 4 * (n 2)) (by omega) c_10_4_n_2 rfl 2 (by decide) (hE.1 (115, "shortWord", "I") (by decide)) (fun _ h => h) rfl rfl rfl (Nat.le_of_ble_eq_true rfl) rfl dX5_file_99 (fun H locs hw => ?_)
        obtain ⟨f_17, ef_17⟩ : ∃ z, z = va_up f_13 (10 + 4 * (n 2)) (.inr (1, [.ref (ad (11 + 4 * (n 2))), .ref (ad (13 + 4 * (n 2))), .int x_16, .int (nI a), .int (g 9 (n 2)), .int (g 10 (n 2)), .int (g 11 (n 2)), .int (g 12 (n 2))])) := ⟨_, rfl⟩
        have hw : xw D vwCl N ad B s.heap f_17 H locs := by rw [ef_17]; exact hw
        have c_10_4_n_2 : f_17 (10 + 4 * (n 2)) = .inr (1, [.ref (ad (11 + 4 * (n 2))), .ref (ad (13 + 4 * (n 2))), .int x_16, .int (nI a), .int (g 9 (n 2)), .int (g 10 (n 2)), .int (g 11 (n 2)), .int (g 12 (n 2))]) := va_up_of ef_17
        refine lv_aload_n hx hb dX5_file_102 rfl (lv_at hl 2 rfl) ?_
        refine lv_dup hx hb dX5_file_103 rfl ?_
        have c_0 : f_17 0 = .inr (6, [.int (nI (n 0)), .ref (ad 1), .ref (ad 4), .ref (ad 6), .ref (ad 8), .int (nI (n 1)), .ref (ad 9), .int (nI (n 2)), .ref (ad 90), .ref (ad 300), .ref (ad 301), .int (nI (n 3)), .int (g 13 0)]) := by rw [ef_17, va_up_ne _ _ (by omega)]; exact c_0
        refine x_get (ci := 6) (C := RX5) (T := TX5) (n := 13) (ref := RX5) hx hb hts hin_6 hown hK hw 0 (by omega) c_0 rfl 7 (by decide) hf_100 (fun _ h => h) rfl dX5_file_104 ?_
        refine lv_iconst (v := nI 1) hx hb dX5_file_107 (by decide) ?_
        refine n_iadd hx hb dX5_file_108 ?_
        refine x_put (ci := 6) (C := RX5) (T := TX5) (n := 13) (ref := RX5) (fs' := [.int (nI (n 0)), .ref (ad 1), .ref (ad 4), .ref (ad 6), .ref (ad 8), .int (nI (n 1)), .ref (ad 9), .int (nI ((n 2) + 1)), .ref (ad 90), .ref (ad 300), .ref (ad 301), .int (nI (n 3)), .int (g 13 0)]) hx hb hts hin_6 tyX5 tyX5_ok nmX5 hown hK dd hw 0 (by omega) c_0 rfl 7 (by decide) hf_100 (fun _ h => h) rfl rfl rfl (Nat.le_of_ble_eq_true rfl) rfl dX5_file_109 (fun H locs hw => ?_)
        obtain ⟨f_18, ef_18⟩ : ∃ z, z = va_up f_17 0 (.inr (6, [.int (nI (n 0)), .ref (ad 1), .ref (ad 4), .ref (ad 6), .ref (ad 8), .int (nI (n 1)), .ref (ad 9), .int (nI ((n 2) + 1)), .ref (ad 90), .ref (ad 300), .ref (ad 301), .int (nI (n 3)), .int (g 13 0)])) := ⟨_, rfl⟩
        have hw : xw D vwCl N ad B s.heap f_18 H locs := by rw [ef_18]; exact hw
        have c_0 : f_18 0 = .inr (6, [.int (nI (n 0)), .ref (ad 1), .ref (ad 4), .ref (ad 6), .ref (ad 8), .int (nI (n 1)), .ref (ad 9), .int (nI ((n 2) + 1)), .ref (ad 90), .ref (ad 300), .ref (ad 301), .int (nI (n 3)), .int (g 13 0)]) := va_up_of ef_18
        refine lv_aload_n hx hb dX5_file_112 rfl (lv_at hl 2 rfl) ?_
        refine x_get (ci := 6) (C := RX5) (T := TX5) (n := 13) (ref := RX5) hx hb hts hin_6 hown hK hw 0 (by omega) c_0 rfl 3 (by decide) hf_39 (fun _ h => h) rfl dX5_file_113 ?_
        refine lv_iconst (v := nI 0) hx hb dX5_file_116 (by decide) ?_
        have c_6 : f_18 6 = .inr (3, [.ref (ad 7), .int (nI (n 4))]) := by rw [ef_18, va_up_ne _ _ (by decide), ef_17, va_up_ne _ _ (by omega)]; exact c_6
        refine x_Vv (q := 6) (As := [.int (nI 0)]) (rest := []) ⟨hx, hb, hml, hown, hts⟩ (k_X2_shorten_zero l D ca N ad B tR tK f_18 dd 6 7 (n 4) (by omega) c_6  (by omega)) (cwV 1 hts gX5_file_X2_shorten rfl rfl rfl (by decide +kernel) ⟨Nat.le_of_ble_eq_true rfl, Nat.le_of_ble_eq_true rfl⟩) hK hE hB hw (by omega) c_6 rfl rfl rfl rfl hl.1 (Nat.le_of_ble_eq_true rfl) ⟨Nat.zero_le _, Nat.zero_le _⟩ dX5_file_117 (fun f_19 H locs hp hw => ?_)
        have eu := hp
        have ef_19 : f_19 = va_up f_18 6 (.inr (3, [.ref (ad 7), .int (nI 0)])) := eu
        have c_6 : f_19 6 = .inr (3, [.ref (ad 7), .int (nI 0)]) := by rw [ef_19, va_up_self]
        refine lv_aload_n hx hb dX5_file_120 rfl (lv_at hl 2 rfl) ?_
        have c_0 : f_19 0 = .inr (6, [.int (nI (n 0)), .ref (ad 1), .ref (ad 4), .ref (ad 6), .ref (ad 8), .int (nI (n 1)), .ref (ad 9), .int (nI ((n 2) + 1)), .ref (ad 90), .ref (ad 300), .ref (ad 301), .int (nI (n 3)), .int (g 13 0)]) := by rw [ef_19, va_up_ne _ _ (by decide)]; exact c_0
        refine x_get (ci := 6) (C := RX5) (T := TX5) (n := 13) (ref := RX5) hx hb hts hin_6 hown hK hw 0 (by omega) c_0 rfl 8 (by decide) hf_57 (fun _ h => h) rfl dX5_file_121 ?_
        refine lv_iconst (v := nI 0) hx hb dX5_file_124 (by decide) ?_
        refine lv_iload_n hx hb dX5_file_125 rfl (lv_at hl 1 rfl) ?_
        refine lv_iload_n hx hb dX5_file_126 rfl (lv_at hl 4 rfl) ?_
        have c_90 : f_19 90 = .inr (4, [.ref (ad 91), .ref (ad 94), .ref (ad 96), .ref (ad 97), .ref (ad 98), .ref (ad 99), .int (nI (n 5))]) := by rw [ef_19, va_up_ne _ _ (by decide), ef_18, va_up_ne _ _ (by decide), ef_17, va_up_ne _ _ (by omega), ef_13, va_up_ne _ _ (by omega), ef_6, va_up_ne _ _ (by decide), va_up_ne _ _ (by decide), ef_5, va_up_ne _ _ (by omega), ef_3, va_up_ne _ _ (by omega), va_up_ne _ _ (by omega)]; exact c_90
        have c_91 : f_19 91 = .inr (2, [.ref (ad 92), .ref (ad 93)]) := by rw [ef_19, va_up_ne _ _ (by decide), ef_18, va_up_ne _ _ (by decide), ef_17, va_up_ne _ _ (by omega), ef_13, va_up_ne _ _ (by omega), ef_6, va_up_ne _ _ (by decide), va_up_ne _ _ (by decide), ef_5, va_up_ne _ _ (by omega), ef_3, va_up_ne _ _ (by omega), va_up_ne _ _ (by omega)]; exact c_91
        have c_92 : f_19 92 = ai (ca 0) 8 (z 2) := by rw [ef_19, va_up_ne _ _ (by decide), ef_18, va_up_ne _ _ (by decide), ef_17, va_up_ne _ _ (by omega), ef_13, va_up_ne _ _ (by omega), ef_6, va_up_ne _ _ (by decide), va_up_ne _ _ (by decide), ef_5, va_up_ne _ _ (by omega), ef_3, va_up_ne _ _ (by omega), va_up_ne _ _ (by omega)]; exact c_92
        have c_93 : f_19 93 = ai (ca 0) 64 (z 3) := by rw [ef_19, va_up_ne _ _ (by decide), ef_18, va_up_ne _ _ (by decide), ef_17, va_up_ne _ _ (by omega), ef_13, va_up_ne _ _ (by omega), ef_6, va_up_ne _ _ (by decide), va_up_ne _ _ (by decide), ef_5, va_up_ne _ _ (by omega), ef_3, va_up_ne _ _ (by omega), va_up_ne _ _ (by omega)]; exact c_93
        have c_94 : f_19 94 = .inr (3, [.ref (ad 95), .int (nI zn)]) := by rw [ef_19, va_up_ne _ _ (by decide), ef_18, va_up_ne _ _ (by decide), ef_17, va_up_ne _ _ (by omega), ef_13, va_up_ne _ _ (by omega), ef_6, va_up_ne _ _ (by decide), va_up_ne _ _ (by decide), ef_5, va_up_ne _ _ (by omega), ef_3, va_up_ne _ _ (by omega), va_up_ne _ _ (by omega)]; exact c_94
        have c_95 : f_19 95 = ai (ca 0) 200 (z 4) := by rw [ef_19, va_up_ne _ _ (by decide), ef_18, va_up_ne _ _ (by decide), ef_17, va_up_ne _ _ (by omega), ef_13, va_up_ne _ _ (by omega), ef_6, va_up_ne _ _ (by decide), va_up_ne _ _ (by decide), ef_5, va_up_ne _ _ (by omega), ef_3, va_up_ne _ _ (by omega), va_up_ne _ _ (by omega)]; exact c_95
        have c_96 : f_19 96 = ai (ca 0) 200 (g 4) := by rw [ef_19, va_up_ne _ _ (by decide), ef_18, va_up_ne _ _ (by decide), ef_17, va_up_ne _ _ (by omega), ef_13, va_up_ne _ _ (by omega), ef_6, va_up_ne _ _ (by decide), va_up_ne _ _ (by decide), ef_5, va_up_ne _ _ (by omega), ef_3, va_up_ne _ _ (by omega), va_up_ne _ _ (by omega)]; exact c_96
        have c_97 : f_19 97 = ai (ca 0) 200 (g 5) := by rw [ef_19, va_up_ne _ _ (by decide), ef_18, va_up_ne _ _ (by decide), ef_17, va_up_ne _ _ (by omega), ef_13, va_up_ne _ _ (by omega), ef_6, va_up_ne _ _ (by decide), va_up_ne _ _ (by decide), ef_5, va_up_ne _ _ (by omega), ef_3, va_up_ne _ _ (by omega), va_up_ne _ _ (by omega)]; exact c_97
        have c_98 : f_19 98 = ai (ca 0) 200 (g 6) := by rw [ef_19, va_up_ne _ _ (by decide), ef_18, va_up_ne _ _ (by decide), ef_17, va_up_ne _ _ (by omega), ef_13, va_up_ne _ _ (by omega), ef_6, va_up_ne _ _ (by decide), va_up_ne _ _ (by decide), ef_5, va_up_ne _ _ (by omega), ef_3, va_up_ne _ _ (by omega), va_up_ne _ _ (by omega)]; exact c_98
        have c_99 : f_19 99 = aq (ca 4) 200 (fun i => some (ad (100 + i))) := by rw [ef_19, va_up_ne _ _ (by decide), ef_18, va_up_ne _ _ (by decide), ef_17, va_up_ne _ _ (by omega), ef_13, va_up_ne _ _ (by omega), ef_6, va_up_ne _ _ (by decide), va_up_ne _ _ (by decide), ef_5, va_up_ne _ _ (by omega), ef_3, va_up_ne _ _ (by omega), va_up_ne _ _ (by omega)]; exact c_99
        refine x_Vv (q := 90) (As := [.int (nI 0), .int (nI (n 2)), .int (nI j)]) (rest := []) ⟨hx, hb, hml, hown, hts⟩ (k_X3_append_in l D ca N ad B tR tK f_19 dd (n 5) (z 2) (z 3) zn (z 4) (g 4) (g 5) (g 6) (fun i8 => g (1000 + i8)) (nI 0) (nI (n 2)) (nI j) c_90 c_91 c_92 c_93 c_94 c_95 c_96 c_97 c_98 c_99 (fun i hi => by rw [ef_19, va_up_ne _ _ (by omega), ef_18, va_up_ne _ _ (by omega), ef_17, va_up_ne _ _ (by omega), ef_13, va_up_ne _ _ (by omega), ef_6, va_up_ne _ _ (by omega), va_up_ne _ _ (by omega), ef_5, va_up_ne _ _ (by omega), ef_3, va_up_ne _ _ (by omega), va_up_ne _ _ (by omega)]; exact F_M i hi) (by omega) (by omega) (by omega)) (cwV 3 hts gX5_file_X3_append rfl rfl rfl (by decide +kernel) ⟨Nat.le_of_ble_eq_true rfl, Nat.le_of_ble_eq_true rfl⟩) hK hE hB hw (by omega) c_90 rfl rfl rfl rfl hl.1 (Nat.le_of_ble_eq_true rfl) ⟨Nat.zero_le _, Nat.zero_le _⟩ dX5_file_127 (fun f_21 H locs hp hw => ?_)
        obtain ⟨sv1_23, w1_24, e1_25, eu⟩ := hp
        have ef_21 : f_21 = va_up (va_up (va_up (va_up (va_up (va_up (va_up (va_up (va_up f_19 96 (ai (ca 0) 200 (upd (g 4) (n 5) (nI 0)))) 97 (ai (ca 0) 200 (upd (g 5) (n 5) (nI (n 2))))) 98 (ai (ca 0) 200 (upd (g 6) (n 5) (nI j)))) 90 (.inr (4, [.ref (ad 91), .ref (ad 94), .ref (ad 96), .ref (ad 97), .ref (ad 98), .ref (ad 99), .int (nI ((n 5) + 1))]))) 95 (ai (ca 0) 200 sv1_23)) 94 (.inr (3, [.ref (ad 95), .int (nI 44)]))) 93 (ai (ca 0) 64 w1_24)) 92 (ai (ca 0) 8 e1_25)) (100 + (n 5)) (ai (ca 0) 8 (rowD (prevD (fun i8 => g (1000 + i8)) (n 5)) (nI 0) (nI (n 2)) (nI j))) := eu
        have c_96 : f_21 96 = ai (ca 0) 200 (upd (g 4) (n 5) (nI 0)) := by rw [ef_21, va_up_ne _ _ (by omega), va_up_ne _ _ (by decide), va_up_ne _ _ (by decide), va_up_ne _ _ (by decide), va_up_ne _ _ (by decide), va_up_ne _ _ (by decide), va_up_ne _ _ (by decide), va_up_ne _ _ (by decide), va_up_self]
        have c_97 : f_21 97 = ai (ca 0) 200 (upd (g 5) (n 5) (nI (n 2))) := by rw [ef_21, va_up_ne _ _ (by omega), va_up_ne _ _ (by decide), va_up_ne _ _ (by decide), va_up_ne _ _ (by decide), va_up_ne _ _ (by decide), va_up_ne _ _ (by decide), va_up_ne _ _ (by decide), va_up_self]
        have c_98 : f_21 98 = ai (ca 0) 200 (upd (g 6) (n 5) (nI j)) := by rw [ef_21, va_up_ne _ _ (by omega), va_up_ne _ _ (by decide), va_up_ne _ _ (by decide), va_up_ne _ _ (by decide), va_up_ne _ _ (by decide), va_up_ne _ _ (by decide), va_up_self]
        have c_90 : f_21 90 = .inr (4, [.ref (ad 91), .ref (ad 94), .ref (ad 96), .ref (ad 97), .ref (ad 98), .ref (ad 99), .int (nI ((n 5) + 1))]) := by rw [ef_21, va_up_ne _ _ (by omega), va_up_ne _ _ (by decide), va_up_ne _ _ (by decide), va_up_ne _ _ (by decide), va_up_ne _ _ (by decide), va_up_self]
        have c_95 : f_21 95 = ai (ca 0) 200 sv1_23 := by rw [ef_21, va_up_ne _ _ (by omega), va_up_ne _ _ (by decide), va_up_ne _ _ (by decide), va_up_ne _ _ (by decide), va_up_self]
        have c_94 : f_21 94 = .inr (3, [.ref (ad 95), .int (nI 44)]) := by rw [ef_21, va_up_ne _ _ (by omega), va_up_ne _ _ (by decide), va_up_ne _ _ (by decide), va_up_self]
        have c_93 : f_21 93 = ai (ca 0) 64 w1_24 := by rw [ef_21, va_up_ne _ _ (by omega), va_up_ne _ _ (by decide), va_up_self]
        have c_92 : f_21 92 = ai (ca 0) 8 e1_25 := by rw [ef_21, va_up_ne _ _ (by omega), va_up_self]
        have c_100_n_5 : f_21 (100 + (n 5)) = ai (ca 0) 8 (rowD (prevD (fun i8 => g (1000 + i8)) (n 5)) (nI 0) (nI (n 2)) (nI j)) := by rw [ef_21, va_up_self]
        refine lv_iload_n hx hb dX5_file_130 rfl (lv_at hl 1 rfl) ?_
        have c_0 : f_21 0 = .inr (6, [.int (nI (n 0)), .ref (ad 1), .ref (ad 4), .ref (ad 6), .ref (ad 8), .int (nI (n 1)), .ref (ad 9), .int (nI ((n 2) + 1)), .ref (ad 90), .ref (ad 300), .ref (ad 301), .int (nI (n 3)), .int (g 13 0)]) := by rw [ef_21, va_up_ne _ _ (by omega), va_up_ne _ _ (by decide), va_up_ne _ _ (by decide), va_up_ne _ _ (by decide), va_up_ne _ _ (by decide), va_up_ne _ _ (by decide), va_up_ne _ _ (by decide), va_up_ne _ _ (by decide), va_up_ne _ _ (by decide)]; exact c_0
        have c_1 : f_21 1 = .inr (2, [.ref (ad 2), .ref (ad 3)]) := by rw [ef_21, va_up_ne _ _ (by omega), va_up_ne _ _ (by decide), va_up_ne _ _ (by decide), va_up_ne _ _ (by decide), va_up_ne _ _ (by decide), va_up_ne _ _ (by decide), va_up_ne _ _ (by decide), va_up_ne _ _ (by decide), va_up_ne _ _ (by decide), ef_19, va_up_ne _ _ (by decide), ef_18, va_up_ne _ _ (by decide), ef_17, va_up_ne _ _ (by omega), ef_13, va_up_ne _ _ (by omega)]; exact c_1
        have c_2 : f_21 2 = ai (ca 0) 8 e1_9 := by rw [ef_21, va_up_ne _ _ (by omega), va_up_ne _ _ (by decide), va_up_ne _ _ (by decide), va_up_ne _ _ (by decide), va_up_ne _ _ (by decide), va_up_ne _ _ (by decide), va_up_ne _ _ (by decide), va_up_ne _ _ (by decide), va_up_ne _ _ (by decide), ef_19, va_up_ne _ _ (by decide), ef_18, va_up_ne _ _ (by decide), ef_17, va_up_ne _ _ (by omega), ef_13, va_up_ne _ _ (by omega)]; exact c_2
        have c_3 : f_21 3 = ai (ca 0) 64 w1_8 := by rw [ef_21, va_up_ne _ _ (by omega), va_up_ne _ _ (by decide), va_up_ne _ _ (by decide), va_up_ne _ _ (by decide), va_up_ne _ _ (by decide), va_up_ne _ _ (by decide), va_up_ne _ _ (by decide), va_up_ne _ _ (by decide), va_up_ne _ _ (by decide), ef_19, va_up_ne _ _ (by decide), ef_18, va_up_ne _ _ (by decide), ef_17, va_up_ne _ _ (by omega), ef_13, va_up_ne _ _ (by omega)]; exact c_3
        have c_4 : f_21 4 = .inr (5, [.ref (ad 5)]) := by rw [ef_21, va_up_ne _ _ (by omega), va_up_ne _ _ (by decide), va_up_ne _ _ (by decide), va_up_ne _ _ (by decide), va_up_ne _ _ (by decide), va_up_ne _ _ (by decide), va_up_ne _ _ (by decide), va_up_ne _ _ (by decide), va_up_ne _ _ (by decide), ef_19, va_up_ne _ _ (by decide), ef_18, va_up_ne _ _ (by decide), ef_17, va_up_ne _ _ (by omega)]; exact c_4
        have c_5 : f_21 5 = ai (ca 0) 256 tb := by rw [ef_21, va_up_ne _ _ (by omega), va_up_ne _ _ (by decide), va_up_ne _ _ (by decide), va_up_ne _ _ (by decide), va_up_ne _ _ (by decide), va_up_ne _ _ (by decide), va_up_ne _ _ (by decide), va_up_ne _ _ (by decide), va_up_ne _ _ (by decide), ef_19, va_up_ne _ _ (by decide), ef_18, va_up_ne _ _ (by decide), ef_17, va_up_ne _ _ (by omega)]; exact c_5
        have c_6 : f_21 6 = .inr (3, [.ref (ad 7), .int (nI 0)]) := by rw [ef_21, va_up_ne _ _ (by omega), va_up_ne _ _ (by decide), va_up_ne _ _ (by decide), va_up_ne _ _ (by decide), va_up_ne _ _ (by decide), va_up_ne _ _ (by decide), va_up_ne _ _ (by decide), va_up_ne _ _ (by decide), va_up_ne _ _ (by decide)]; exact c_6
        have c_7 : f_21 7 = ai (ca 0) 200 (g 0) := by rw [ef_21, va_up_ne _ _ (by omega), va_up_ne _ _ (by decide), va_up_ne _ _ (by decide), va_up_ne _ _ (by decide), va_up_ne _ _ (by decide), va_up_ne _ _ (by decide), va_up_ne _ _ (by decide), va_up_ne _ _ (by decide), va_up_ne _ _ (by decide), ef_19, va_up_ne _ _ (by decide), ef_18, va_up_ne _ _ (by decide), ef_17, va_up_ne _ _ (by omega)]; exact c_7
        have c_8 : f_21 8 = ai (ca 0) 8 (g 1) := by rw [ef_21, va_up_ne _ _ (by omega), va_up_ne _ _ (by decide), va_up_ne _ _ (by decide), va_up_ne _ _ (by decide), va_up_ne _ _ (by decide), va_up_ne _ _ (by decide), va_up_ne _ _ (by decide), va_up_ne _ _ (by decide), va_up_ne _ _ (by decide), ef_19, va_up_ne _ _ (by decide), ef_18, va_up_ne _ _ (by decide), ef_17, va_up_ne _ _ (by omega), ef_13, va_up_ne _ _ (by omega), ef_6, va_up_ne _ _ (by decide), va_up_ne _ _ (by decide), ef_5, va_up_ne _ _ (by omega), ef_3, va_up_ne _ _ (by omega), va_up_ne _ _ (by omega)]; exact c_8
        have c_9 : f_21 9 = aq (ca 3) 20 (fun i => some (ad (10 + 4 * i))) := by rw [ef_21, va_up_ne _ _ (by omega), va_up_ne _ _ (by decide), va_up_ne _ _ (by decide), va_up_ne _ _ (by decide), va_up_ne _ _ (by decide), va_up_ne _ _ (by decide), va_up_ne _ _ (by decide), va_up_ne _ _ (by decide), va_up_ne _ _ (by decide), ef_19, va_up_ne _ _ (by decide), ef_18, va_up_ne _ _ (by decide), ef_17, va_up_ne _ _ (by omega), ef_13, va_up_ne _ _ (by omega), ef_6, va_up_ne _ _ (by decide), va_up_ne _ _ (by decide), ef_5, va_up_ne _ _ (by omega), ef_3, va_up_ne _ _ (by omega), va_up_ne _ _ (by omega)]; exact c_9
        have c_91 : f_21 91 = .inr (2, [.ref (ad 92), .ref (ad 93)]) := by rw [ef_21, va_up_ne _ _ (by omega), va_up_ne _ _ (by decide), va_up_ne _ _ (by decide), va_up_ne _ _ (by decide), va_up_ne _ _ (by decide), va_up_ne _ _ (by decide), va_up_ne _ _ (by decide), va_up_ne _ _ (by decide), va_up_ne _ _ (by decide)]; exact c_91
        have c_99 : f_21 99 = aq (ca 4) 200 (fun i => some (ad (100 + i))) := by rw [ef_21, va_up_ne _ _ (by omega), va_up_ne _ _ (by decide), va_up_ne _ _ (by decide), va_up_ne _ _ (by decide), va_up_ne _ _ (by decide), va_up_ne _ _ (by decide), va_up_ne _ _ (by decide), va_up_ne _ _ (by decide), va_up_ne _ _ (by decide)]; exact c_99
        have c_300 : f_21 300 = ai (ca 0) 20 (g 2) := by rw [ef_21, va_up_ne _ _ (by omega), va_up_ne _ _ (by decide), va_up_ne _ _ (by decide), va_up_ne _ _ (by decide), va_up_ne _ _ (by decide), va_up_ne _ _ (by decide), va_up_ne _ _ (by decide), va_up_ne _ _ (by decide), va_up_ne _ _ (by decide), ef_19, va_up_ne _ _ (by decide), ef_18, va_up_ne _ _ (by decide), ef_17, va_up_ne _ _ (by omega), ef_13, va_up_ne _ _ (by omega), ef_6, va_up_ne _ _ (by decide), va_up_ne _ _ (by decide), ef_5, va_up_ne _ _ (by omega), ef_3, va_up_ne _ _ (by omega), va_up_ne _ _ (by omega)]; exact c_300
        have c_301 : f_21 301 = ai (ca 2) 20 (g 3) := by rw [ef_21, va_up_ne _ _ (by omega), va_up_ne _ _ (by decide), va_up_ne _ _ (by decide), va_up_ne _ _ (by decide), va_up_ne _ _ (by decide), va_up_ne _ _ (by decide), va_up_ne _ _ (by decide), va_up_ne _ _ (by decide), va_up_ne _ _ (by decide), ef_19, va_up_ne _ _ (by decide), ef_18, va_up_ne _ _ (by decide), ef_17, va_up_ne _ _ (by omega), ef_13, va_up_ne _ _ (by omega), ef_6, va_up_ne _ _ (by decide), va_up_ne _ _ (by decide), ef_5, va_up_ne _ _ (by omega), ef_3, va_up_ne _ _ (by omega), va_up_ne _ _ (by omega)]; exact c_301
        have c_10_4_n_2 : f_21 (10 + 4 * (n 2)) = .inr (1, [.ref (ad (11 + 4 * (n 2))), .ref (ad (13 + 4 * (n 2))), .int x_16, .int (nI a), .int (g 9 (n 2)), .int (g 10 (n 2)), .int (g 11 (n 2)), .int (g 12 (n 2))]) := by rw [ef_21, va_up_ne _ _ (by omega), va_up_ne _ _ (by omega), va_up_ne _ _ (by omega), va_up_ne _ _ (by omega), va_up_ne _ _ (by omega), va_up_ne _ _ (by omega), va_up_ne _ _ (by omega), va_up_ne _ _ (by omega), va_up_ne _ _ (by omega), ef_19, va_up_ne _ _ (by omega), ef_18, va_up_ne _ _ (by omega)]; exact c_10_4_n_2
        have c_10_4_n_2 : f_21 (10 + 4 * (n 2)) = .inr (1, [.ref (ad (11 + 4 * (n 2))), .ref (ad (13 + 4 * (n 2))), .int (crc (n 4) (g 0)), .int (nI a), .int (g 9 (n 2)), .int (g 10 (n 2)), .int (g 11 (n 2)), .int (g 12 (n 2))]) := by rw [c_10_4_n_2]; simp only [ex_16]
        have c_11_4_n_2 : f_21 (11 + 4 * (n 2)) = .inr (3, [.ref (ad (12 + 4 * (n 2))), .int (nI (n 4))]) := by rw [ef_21, va_up_ne _ _ (by omega), va_up_ne _ _ (by omega), va_up_ne _ _ (by omega), va_up_ne _ _ (by omega), va_up_ne _ _ (by omega), va_up_ne _ _ (by omega), va_up_ne _ _ (by omega), va_up_ne _ _ (by omega), va_up_ne _ _ (by omega), ef_19, va_up_ne _ _ (by omega), ef_18, va_up_ne _ _ (by omega), ef_17, va_up_ne _ _ (by omega), ef_13, va_up_ne _ _ (by omega), ef_6, va_up_ne _ _ (by omega), va_up_ne _ _ (by omega), ef_5, va_up_ne _ _ (by omega)]; exact c_11_4_n_2
        have c_12_4_n_2 : f_21 (12 + 4 * (n 2)) = ai (ca 0) 200 (cpyTo (g (100 + (n 2))) (g 0) (n 4)) := by rw [ef_21, va_up_ne _ _ (by omega), va_up_ne _ _ (by omega), va_up_ne _ _ (by omega), va_up_ne _ _ (by omega), va_up_ne _ _ (by omega), va_up_ne _ _ (by omega), va_up_ne _ _ (by omega), va_up_ne _ _ (by omega), va_up_ne _ _ (by omega), ef_19, va_up_ne _ _ (by omega), ef_18, va_up_ne _ _ (by omega), ef_17, va_up_ne _ _ (by omega), ef_13, va_up_ne _ _ (by omega), ef_6, va_up_ne _ _ (by omega), va_up_ne _ _ (by omega), ef_5, va_up_ne _ _ (by omega)]; exact c_12_4_n_2
        have c_13_4_n_2 : f_21 (13 + 4 * (n 2)) = ai (ca 0) 8 (sha (n 4) (g 0)) := by rw [ef_21, va_up_ne _ _ (by omega), va_up_ne _ _ (by omega), va_up_ne _ _ (by omega), va_up_ne _ _ (by omega), va_up_ne _ _ (by omega), va_up_ne _ _ (by omega), va_up_ne _ _ (by omega), va_up_ne _ _ (by omega), va_up_ne _ _ (by omega), ef_19, va_up_ne _ _ (by omega), ef_18, va_up_ne _ _ (by omega), ef_17, va_up_ne _ _ (by omega)]; exact c_13_4_n_2
        have qn_0 : (va_up (va_up (va_up (va_up n 2 ((n 2) + 1)) 4 0) 5 ((n 5) + 1)) (10 + (n 2)) (n 4)) 0 = n 0 := by rw [va_up_ne _ _ (by omega), va_up_ne _ _ (by decide), va_up_ne _ _ (by decide), va_up_ne _ _ (by decide)]
        have qn_1 : (va_up (va_up (va_up (va_up n 2 ((n 2) + 1)) 4 0) 5 ((n 5) + 1)) (10 + (n 2)) (n 4)) 1 = n 1 := by rw [va_up_ne _ _ (by omega), va_up_ne _ _ (by decide), va_up_ne _ _ (by decide), va_up_ne _ _ (by decide)]
        have qn_2 : (va_up (va_up (va_up (va_up n 2 ((n 2) + 1)) 4 0) 5 ((n 5) + 1)) (10 + (n 2)) (n 4)) 2 = (n 2) + 1 := by rw [va_up_ne _ _ (by omega), va_up_ne _ _ (by decide), va_up_ne _ _ (by decide), va_up_self]
        have qn_3 : (va_up (va_up (va_up (va_up n 2 ((n 2) + 1)) 4 0) 5 ((n 5) + 1)) (10 + (n 2)) (n 4)) 3 = n 3 := by rw [va_up_ne _ _ (by omega), va_up_ne _ _ (by decide), va_up_ne _ _ (by decide), va_up_ne _ _ (by decide)]
        have qn_4 : (va_up (va_up (va_up (va_up n 2 ((n 2) + 1)) 4 0) 5 ((n 5) + 1)) (10 + (n 2)) (n 4)) 4 = 0 := by rw [va_up_ne _ _ (by omega), va_up_ne _ _ (by decide), va_up_self]
        have qn_5 : (va_up (va_up (va_up (va_up n 2 ((n 2) + 1)) 4 0) 5 ((n 5) + 1)) (10 + (n 2)) (n 4)) 5 = (n 5) + 1 := by rw [va_up_ne _ _ (by omega), va_up_self]
        have qg_0 : (va_up (va_up (va_up (va_up (va_up (va_up (va_up (va_up g 4 (upd (g 4) (n 5) (nI 0))) 5 (upd (g 5) (n 5) (nI (n 2)))) 6 (upd (g 6) (n 5) (nI j))) 7 (upd (g 7) (n 2) (crc (n 4) (g 0)))) 8 (upd (g 8) (n 2) (nI a))) (100 + (n 2)) (cpyTo (g (100 + (n 2))) (g 0) (n 4))) (200 + (n 2)) (sha (n 4) (g 0))) (1000 + (n 5)) (rowD (prevD (fun i8 => g (1000 + i8)) (n 5)) (nI 0) (nI (n 2)) (nI j))) 0 = g 0 := by rw [va_up_ne _ _ (by omega), va_up_ne _ _ (by omega), va_up_ne _ _ (by omega), va_up_ne _ _ (by decide), va_up_ne _ _ (by decide), va_up_ne _ _ (by decide), va_up_ne _ _ (by decide), va_up_ne _ _ (by decide)]
        have qg_1 : (va_up (va_up (va_up (va_up (va_up (va_up (va_up (va_up g 4 (upd (g 4) (n 5) (nI 0))) 5 (upd (g 5) (n 5) (nI (n 2)))) 6 (upd (g 6) (n 5) (nI j))) 7 (upd (g 7) (n 2) (crc (n 4) (g 0)))) 8 (upd (g 8) (n 2) (nI a))) (100 + (n 2)) (cpyTo (g (100 + (n 2))) (g 0) (n 4))) (200 + (n 2)) (sha (n 4) (g 0))) (1000 + (n 5)) (rowD (prevD (fun i8 => g (1000 + i8)) (n 5)) (nI 0) (nI (n 2)) (nI j))) 1 = g 1 := by rw [va_up_ne _ _ (by omega), va_up_ne _ _ (by omega), va_up_ne _ _ (by omega), va_up_ne _ _ (by decide), va_up_ne _ _ (by decide), va_up_ne _ _ (by decide), va_up_ne _ _ (by decide), va_up_ne _ _ (by decide)]
        have qg_2 : (va_up (va_up (va_up (va_up (va_up (va_up (va_up (va_up g 4 (upd (g 4) (n 5) (nI 0))) 5 (upd (g 5) (n 5) (nI (n 2)))) 6 (upd (g 6) (n 5) (nI j))) 7 (upd (g 7) (n 2) (crc (n 4) (g 0)))) 8 (upd (g 8) (n 2) (nI a))) (100 + (n 2)) (cpyTo (g (100 + (n 2))) (g 0) (n 4))) (200 + (n 2)) (sha (n 4) (g 0))) (1000 + (n 5)) (rowD (prevD (fun i8 => g (1000 + i8)) (n 5)) (nI 0) (nI (n 2)) (nI j))) 2 = g 2 := by rw [va_up_ne _ _ (by omega), va_up_ne _ _ (by omega), va_up_ne _ _ (by omega), va_up_ne _ _ (by decide), va_up_ne _ _ (by decide), va_up_ne _ _ (by decide), va_up_ne _ _ (by decide), va_up_ne _ _ (by decide)]
        have qg_3 : (va_up (va_up (va_up (va_up (va_up (va_up (va_up (va_up g 4 (upd (g 4) (n 5) (nI 0))) 5 (upd (g 5) (n 5) (nI (n 2)))) 6 (upd (g 6) (n 5) (nI j))) 7 (upd (g 7) (n 2) (crc (n 4) (g 0)))) 8 (upd (g 8) (n 2) (nI a))) (100 + (n 2)) (cpyTo (g (100 + (n 2))) (g 0) (n 4))) (200 + (n 2)) (sha (n 4) (g 0))) (1000 + (n 5)) (rowD (prevD (fun i8 => g (1000 + i8)) (n 5)) (nI 0) (nI (n 2)) (nI j))) 3 = g 3 := by rw [va_up_ne _ _ (by omega), va_up_ne _ _ (by omega), va_up_ne _ _ (by omega), va_up_ne _ _ (by decide), va_up_ne _ _ (by decide), va_up_ne _ _ (by decide), va_up_ne _ _ (by decide), va_up_ne _ _ (by decide)]
        have qg_4 : (va_up (va_up (va_up (va_up (va_up (va_up (va_up (va_up g 4 (upd (g 4) (n 5) (nI 0))) 5 (upd (g 5) (n 5) (nI (n 2)))) 6 (upd (g 6) (n 5) (nI j))) 7 (upd (g 7) (n 2) (crc (n 4) (g 0)))) 8 (upd (g 8) (n 2) (nI a))) (100 + (n 2)) (cpyTo (g (100 + (n 2))) (g 0) (n 4))) (200 + (n 2)) (sha (n 4) (g 0))) (1000 + (n 5)) (rowD (prevD (fun i8 => g (1000 + i8)) (n 5)) (nI 0) (nI (n 2)) (nI j))) 4 = upd (g 4) (n 5) (nI 0) := by rw [va_up_ne _ _ (by omega), va_up_ne _ _ (by omega), va_up_ne _ _ (by omega), va_up_ne _ _ (by decide), va_up_ne _ _ (by decide), va_up_ne _ _ (by decide), va_up_ne _ _ (by decide), va_up_self]
        have qg_5 : (va_up (va_up (va_up (va_up (va_up (va_up (va_up (va_up g 4 (upd (g 4) (n 5) (nI 0))) 5 (upd (g 5) (n 5) (nI (n 2)))) 6 (upd (g 6) (n 5) (nI j))) 7 (upd (g 7) (n 2) (crc (n 4) (g 0)))) 8 (upd (g 8) (n 2) (nI a))) (100 + (n 2)) (cpyTo (g (100 + (n 2))) (g 0) (n 4))) (200 + (n 2)) (sha (n 4) (g 0))) (1000 + (n 5)) (rowD (prevD (fun i8 => g (1000 + i8)) (n 5)) (nI 0) (nI (n 2)) (nI j))) 5 = upd (g 5) (n 5) (nI (n 2)) := by rw [va_up_ne _ _ (by omega), va_up_ne _ _ (by omega), va_up_ne _ _ (by omega), va_up_ne _ _ (by decide), va_up_ne _ _ (by decide), va_up_ne _ _ (by decide), va_up_self]
        have qg_6 : (va_up (va_up (va_up (va_up (va_up (va_up (va_up (va_up g 4 (upd (g 4) (n 5) (nI 0))) 5 (upd (g 5) (n 5) (nI (n 2)))) 6 (upd (g 6) (n 5) (nI j))) 7 (upd (g 7) (n 2) (crc (n 4) (g 0)))) 8 (upd (g 8) (n 2) (nI a))) (100 + (n 2)) (cpyTo (g (100 + (n 2))) (g 0) (n 4))) (200 + (n 2)) (sha (n 4) (g 0))) (1000 + (n 5)) (rowD (prevD (fun i8 => g (1000 + i8)) (n 5)) (nI 0) (nI (n 2)) (nI j))) 6 = upd (g 6) (n 5) (nI j) := by rw [va_up_ne _ _ (by omega), va_up_ne _ _ (by omega), va_up_ne _ _ (by omega), va_up_ne _ _ (by decide), va_up_ne _ _ (by decide), va_up_self]
        have qg_7 : (va_up (va_up (va_up (va_up (va_up (va_up (va_up (va_up g 4 (upd (g 4) (n 5) (nI 0))) 5 (upd (g 5) (n 5) (nI (n 2)))) 6 (upd (g 6) (n 5) (nI j))) 7 (upd (g 7) (n 2) (crc (n 4) (g 0)))) 8 (upd (g 8) (n 2) (nI a))) (100 + (n 2)) (cpyTo (g (100 + (n 2))) (g 0) (n 4))) (200 + (n 2)) (sha (n 4) (g 0))) (1000 + (n 5)) (rowD (prevD (fun i8 => g (1000 + i8)) (n 5)) (nI 0) (nI (n 2)) (nI j))) 7 = upd (g 7) (n 2) (crc (n 4) (g 0)) := by rw [va_up_ne _ _ (by omega), va_up_ne _ _ (by omega), va_up_ne _ _ (by omega), va_up_ne _ _ (by decide), va_up_self]
        have qg_8 : (va_up (va_up (va_up (va_up (va_up (va_up (va_up (va_up g 4 (upd (g 4) (n 5) (nI 0))) 5 (upd (g 5) (n 5) (nI (n 2)))) 6 (upd (g 6) (n 5) (nI j))) 7 (upd (g 7) (n 2) (crc (n 4) (g 0)))) 8 (upd (g 8) (n 2) (nI a))) (100 + (n 2)) (cpyTo (g (100 + (n 2))) (g 0) (n 4))) (200 + (n 2)) (sha (n 4) (g 0))) (1000 + (n 5)) (rowD (prevD (fun i8 => g (1000 + i8)) (n 5)) (nI 0) (nI (n 2)) (nI j))) 8 = upd (g 8) (n 2) (nI a) := by rw [va_up_ne _ _ (by omega), va_up_ne _ _ (by omega), va_up_ne _ _ (by omega), va_up_self]
        have qg_9 : (va_up (va_up (va_up (va_up (va_up (va_up (va_up (va_up g 4 (upd (g 4) (n 5) (nI 0))) 5 (upd (g 5) (n 5) (nI (n 2)))) 6 (upd (g 6) (n 5) (nI j))) 7 (upd (g 7) (n 2) (crc (n 4) (g 0)))) 8 (upd (g 8) (n 2) (nI a))) (100 + (n 2)) (cpyTo (g (100 + (n 2))) (g 0) (n 4))) (200 + (n 2)) (sha (n 4) (g 0))) (1000 + (n 5)) (rowD (prevD (fun i8 => g (1000 + i8)) (n 5)) (nI 0) (nI (n 2)) (nI j))) 9 = g 9 := by rw [va_up_ne _ _ (by omega), va_up_ne _ _ (by omega), va_up_ne _ _ (by omega), va_up_ne _ _ (by decide), va_up_ne _ _ (by decide), va_up_ne _ _ (by decide), va_up_ne _ _ (by decide), va_up_ne _ _ (by decide)]
        have qg_10 : (va_up (va_up (va_up (va_up (va_up (va_up (va_up (va_up g 4 (upd (g 4) (n 5) (nI 0))) 5 (upd (g 5) (n 5) (nI (n 2)))) 6 (upd (g 6) (n 5) (nI j))) 7 (upd (g 7) (n 2) (crc (n 4) (g 0)))) 8 (upd (g 8) (n 2) (nI a))) (100 + (n 2)) (cpyTo (g (100 + (n 2))) (g 0) (n 4))) (200 + (n 2)) (sha (n 4) (g 0))) (1000 + (n 5)) (rowD (prevD (fun i8 => g (1000 + i8)) (n 5)) (nI 0) (nI (n 2)) (nI j))) 10 = g 10 := by rw [va_up_ne _ _ (by omega), va_up_ne _ _ (by omega), va_up_ne _ _ (by omega), va_up_ne _ _ (by decide), va_up_ne _ _ (by decide), va_up_ne _ _ (by decide), va_up_ne _ _ (by decide), va_up_ne _ _ (by decide)]
        have qg_11 : (va_up (va_up (va_up (va_up (va_up (va_up (va_up (va_up g 4 (upd (g 4) (n 5) (nI 0))) 5 (upd (g 5) (n 5) (nI (n 2)))) 6 (upd (g 6) (n 5) (nI j))) 7 (upd (g 7) (n 2) (crc (n 4) (g 0)))) 8 (upd (g 8) (n 2) (nI a))) (100 + (n 2)) (cpyTo (g (100 + (n 2))) (g 0) (n 4))) (200 + (n 2)) (sha (n 4) (g 0))) (1000 + (n 5)) (rowD (prevD (fun i8 => g (1000 + i8)) (n 5)) (nI 0) (nI (n 2)) (nI j))) 11 = g 11 := by rw [va_up_ne _ _ (by omega), va_up_ne _ _ (by omega), va_up_ne _ _ (by omega), va_up_ne _ _ (by decide), va_up_ne _ _ (by decide), va_up_ne _ _ (by decide), va_up_ne _ _ (by decide), va_up_ne _ _ (by decide)]
        have qg_12 : (va_up (va_up (va_up (va_up (va_up (va_up (va_up (va_up g 4 (upd (g 4) (n 5) (nI 0))) 5 (upd (g 5) (n 5) (nI (n 2)))) 6 (upd (g 6) (n 5) (nI j))) 7 (upd (g 7) (n 2) (crc (n 4) (g 0)))) 8 (upd (g 8) (n 2) (nI a))) (100 + (n 2)) (cpyTo (g (100 + (n 2))) (g 0) (n 4))) (200 + (n 2)) (sha (n 4) (g 0))) (1000 + (n 5)) (rowD (prevD (fun i8 => g (1000 + i8)) (n 5)) (nI 0) (nI (n 2)) (nI j))) 12 = g 12 := by rw [va_up_ne _ _ (by omega), va_up_ne _ _ (by omega), va_up_ne _ _ (by omega), va_up_ne _ _ (by decide), va_up_ne _ _ (by decide), va_up_ne _ _ (by decide), va_up_ne _ _ (by decide), va_up_ne _ _ (by decide)]
        have qg_13 : (va_up (va_up (va_up (va_up (va_up (va_up (va_up (va_up g 4 (upd (g 4) (n 5) (nI 0))) 5 (upd (g 5) (n 5) (nI (n 2)))) 6 (upd (g 6) (n 5) (nI j))) 7 (upd (g 7) (n 2) (crc (n 4) (g 0)))) 8 (upd (g 8) (n 2) (nI a))) (100 + (n 2)) (cpyTo (g (100 + (n 2))) (g 0) (n 4))) (200 + (n 2)) (sha (n 4) (g 0))) (1000 + (n 5)) (rowD (prevD (fun i8 => g (1000 + i8)) (n 5)) (nI 0) (nI (n 2)) (nI j))) 13 = g 13 := by rw [va_up_ne _ _ (by omega), va_up_ne _ _ (by omega), va_up_ne _ _ (by omega), va_up_ne _ _ (by decide), va_up_ne _ _ (by decide), va_up_ne _ _ (by decide), va_up_ne _ _ (by decide), va_up_ne _ _ (by decide)]
        have qz_0 : (va_up (va_up (va_up (va_up (va_up z 0 e1_9) 1 w1_8) 2 e1_25) 3 w1_24) 4 sv1_23) 0 = e1_9 := by rw [va_up_ne _ _ (by decide), va_up_ne _ _ (by decide), va_up_ne _ _ (by decide), va_up_ne _ _ (by decide), va_up_self]
        have qz_1 : (va_up (va_up (va_up (va_up (va_up z 0 e1_9) 1 w1_8) 2 e1_25) 3 w1_24) 4 sv1_23) 1 = w1_8 := by rw [va_up_ne _ _ (by decide), va_up_ne _ _ (by decide), va_up_ne _ _ (by decide), va_up_self]
        have qz_2 : (va_up (va_up (va_up (va_up (va_up z 0 e1_9) 1 w1_8) 2 e1_25) 3 w1_24) 4 sv1_23) 2 = e1_25 := by rw [va_up_ne _ _ (by decide), va_up_ne _ _ (by decide), va_up_self]
        have qz_3 : (va_up (va_up (va_up (va_up (va_up z 0 e1_9) 1 w1_8) 2 e1_25) 3 w1_24) 4 sv1_23) 3 = w1_24 := by rw [va_up_ne _ _ (by decide), va_up_self]
        have qz_4 : (va_up (va_up (va_up (va_up (va_up z 0 e1_9) 1 w1_8) 2 e1_25) 3 w1_24) 4 sv1_23) 4 = sv1_23 := by rw [va_up_self]
        have hRz : RepX ca ad (va_up (va_up (va_up (va_up n 2 ((n 2) + 1)) 4 0) 5 ((n 5) + 1)) (10 + (n 2)) (n 4)) (va_up (va_up (va_up (va_up (va_up (va_up (va_up (va_up g 4 (upd (g 4) (n 5) (nI 0))) 5 (upd (g 5) (n 5) (nI (n 2)))) 6 (upd (g 6) (n 5) (nI j))) 7 (upd (g 7) (n 2) (crc (n 4) (g 0)))) 8 (upd (g 8) (n 2) (nI a))) (100 + (n 2)) (cpyTo (g (100 + (n 2))) (g 0) (n 4))) (200 + (n 2)) (sha (n 4) (g 0))) (1000 + (n 5)) (rowD (prevD (fun i8 => g (1000 + i8)) (n 5)) (nI 0) (nI (n 2)) (nI j))) (va_up (va_up (va_up (va_up (va_up z 0 e1_9) 1 w1_8) 2 e1_25) 3 w1_24) 4 sv1_23) 44 tb f_21 := ⟨(by rw [qn_0, qn_1, qn_2, qn_3, qg_13]; exact c_0),
              c_1,
              (by rw [qz_0]; exact c_2),
              (by rw [qz_1]; exact c_3),
              c_4,
              c_5,
              (by rw [qn_4]; exact c_6),
              (by rw [qg_0]; exact c_7),
              (by rw [qg_1]; exact c_8),
              c_9,
              (by rw [qn_5]; exact c_90),
              c_91,
              (by rw [qz_2]; exact c_92),
              (by rw [qz_3]; exact c_93),
              c_94,
              (by rw [qz_4]; exact c_95),
              (by rw [qg_4]; exact c_96),
              (by rw [qg_5]; exact c_97),
              (by rw [qg_6]; exact c_98),
              c_99,
              (by rw [qg_2]; exact c_300),
              (by rw [qg_3]; exact c_301),
              (fun i9 hi9 => by
              by_cases ei : i9 = n 2
              · rw [ei]; simp only [qg_7, qg_8, qg_9, qg_10, qg_11, qg_12, pk_us]; exact c_10_4_n_2
              · simp only [qg_7, qg_8, qg_9, qg_10, qg_11, qg_12, pk_un ei]; rw [ef_21, va_up_ne _ _ (by omega), va_up_ne _ _ (by omega), va_up_ne _ _ (by omega), va_up_ne _ _ (by omega), va_up_ne _ _ (by omega), va_up_ne _ _ (by omega), va_up_ne _ _ (by omega), va_up_ne _ _ (by omega), va_up_ne _ _ (by omega), ef_19, va_up_ne _ _ (by omega), ef_18, va_up_ne _ _ (by omega), ef_17, va_up_ne _ _ (by omega), ef_13, va_up_ne _ _ (by omega), ef_6, va_up_ne _ _ (by omega), va_up_ne _ _ (by omega), ef_5, va_up_ne _ _ (by omega), ef_3, va_up_ne _ _ (by omega), va_up_ne _ _ (by omega)]; exact F_kf i9 hi9),
              (fun i9 hi9 => by
              by_cases ei : i9 = n 2
              · rw [ei, va_up_self]; exact c_11_4_n_2
              · rw [va_up_ne _ _ (by omega), va_up_ne _ _ (by omega), va_up_ne _ _ (by omega), va_up_ne _ _ (by omega)]; rw [ef_21, va_up_ne _ _ (by omega), va_up_ne _ _ (by omega), va_up_ne _ _ (by omega), va_up_ne _ _ (by omega), va_up_ne _ _ (by omega), va_up_ne _ _ (by omega), va_up_ne _ _ (by omega), va_up_ne _ _ (by omega), va_up_ne _ _ (by omega), ef_19, va_up_ne _ _ (by omega), ef_18, va_up_ne _ _ (by omega), ef_17, va_up_ne _ _ (by omega), ef_13, va_up_ne _ _ (by omega), ef_6, va_up_ne _ _ (by omega), va_up_ne _ _ (by omega), ef_5, va_up_ne _ _ (by omega), ef_3, va_up_ne _ _ (by omega), va_up_ne _ _ (by omega)]; exact F_oc i9 hi9),
              (fun i9 hi9 => by
              by_cases ei : i9 = n 2
              · rw [ei, va_up_ne _ _ (by omega), va_up_ne _ _ (by omega), va_up_self]; exact c_12_4_n_2
              · rw [va_up_ne _ _ (by omega), va_up_ne _ _ (by omega), va_up_ne _ _ (by omega), va_up_ne _ _ (by omega), va_up_ne _ _ (by omega), va_up_ne _ _ (by omega), va_up_ne _ _ (by omega), va_up_ne _ _ (by omega)]; rw [ef_21, va_up_ne _ _ (by omega), va_up_ne _ _ (by omega), va_up_ne _ _ (by omega), va_up_ne _ _ (by omega), va_up_ne _ _ (by omega), va_up_ne _ _ (by omega), va_up_ne _ _ (by omega), va_up_ne _ _ (by omega), va_up_ne _ _ (by omega), ef_19, va_up_ne _ _ (by omega), ef_18, va_up_ne _ _ (by omega), ef_17, va_up_ne _ _ (by omega), ef_13, va_up_ne _ _ (by omega), ef_6, va_up_ne _ _ (by omega), va_up_ne _ _ (by omega), ef_5, va_up_ne _ _ (by omega), ef_3, va_up_ne _ _ (by omega), va_up_ne _ _ (by omega)]; exact F_va i9 hi9),
              (fun i9 hi9 => by
              by_cases ei : i9 = n 2
              · rw [ei, va_up_ne _ _ (by omega), va_up_self]; exact c_13_4_n_2
              · rw [va_up_ne _ _ (by omega), va_up_ne _ _ (by omega), va_up_ne _ _ (by omega), va_up_ne _ _ (by omega), va_up_ne _ _ (by omega), va_up_ne _ _ (by omega), va_up_ne _ _ (by omega), va_up_ne _ _ (by omega)]; rw [ef_21, va_up_ne _ _ (by omega), va_up_ne _ _ (by omega), va_up_ne _ _ (by omega), va_up_ne _ _ (by omega), va_up_ne _ _ (by omega), va_up_ne _ _ (by omega), va_up_ne _ _ (by omega), va_up_ne _ _ (by omega), va_up_ne _ _ (by omega), ef_19, va_up_ne _ _ (by omega), ef_18, va_up_ne _ _ (by omega), ef_17, va_up_ne _ _ (by omega), ef_13, va_up_ne _ _ (by omega), ef_6, va_up_ne _ _ (by omega), va_up_ne _ _ (by omega), ef_5, va_up_ne _ _ (by omega), ef_3, va_up_ne _ _ (by omega), va_up_ne _ _ (by omega)]; exact F_lw i9 hi9),
              (fun i9 hi9 => by
              by_cases ei : i9 = n 5
              · rw [ei, va_up_self]; exact c_100_n_5
              · rw [va_up_ne _ _ (by omega), va_up_ne _ _ (by omega), va_up_ne _ _ (by omega), va_up_ne _ _ (by omega), va_up_ne _ _ (by omega), va_up_ne _ _ (by omega), va_up_ne _ _ (by omega), va_up_ne _ _ (by omega)]; rw [ef_21, va_up_ne _ _ (by omega), va_up_ne _ _ (by omega), va_up_ne _ _ (by omega), va_up_ne _ _ (by omega), va_up_ne _ _ (by omega), va_up_ne _ _ (by omega), va_up_ne _ _ (by omega), va_up_ne _ _ (by omega), va_up_ne _ _ (by omega), ef_19, va_up_ne _ _ (by omega), ef_18, va_up_ne _ _ (by omega), ef_17, va_up_ne _ _ (by omega), ef_13, va_up_ne _ _ (by omega), ef_6, va_up_ne _ _ (by omega), va_up_ne _ _ (by omega), ef_5, va_up_ne _ _ (by omega), ef_3, va_up_ne _ _ (by omega), va_up_ne _ _ (by omega)]; exact F_M i9 hi9), (by first | omega | assumption), hT⟩
        exact x_iret hx hb hr hlocks hw ⟨rfl, va_up (va_up (va_up (va_up (va_up z 0 e1_9) 1 w1_8) 2 e1_25) 3 w1_24) 4 sv1_23, 44, hRz, (fun y hy => by rw [ef_21, va_up_ne _ _ (by omega), va_up_ne _ _ (by omega), va_up_ne _ _ (by omega), va_up_ne _ _ (by omega), va_up_ne _ _ (by omega), va_up_ne _ _ (by omega), va_up_ne _ _ (by omega), va_up_ne _ _ (by omega), va_up_ne _ _ (by omega), ef_19, va_up_ne _ _ (by omega), ef_18, va_up_ne _ _ (by omega), ef_17, va_up_ne _ _ (by omega), ef_13, va_up_ne _ _ (by omega), ef_6, va_up_ne _ _ (by omega), va_up_ne _ _ (by omega), ef_5, va_up_ne _ _ (by omega), ef_3, va_up_ne _ _ (by omega), va_up_ne _ _ (by omega)])⟩ dX5_file_131
      · omega

set_option maxHeartbeats 4000000 in
set_option maxRecDepth 100000 in
theorem k_X5_file_inF (l : Launch) (D : va_G) (ca : Nat → ClassId) (N : Nat) (ad : Nat → Nat) (B tR tK : Nat) (f : Nat → va_E) (dd : xD N ad B) (hN : 302 ≤ N) (n : Nat → Nat) (g : Nat → Nat → Int32) (z : Nat → Nat → Int32) (zn : Nat) (tb : Nat → Int32) (hR : RepX ca ad n g z zn tb f) (a : Nat) (j : Nat) (ha1 : 1 ≤ a) (ha2 : a ≤ 3) (hj : j ≤ 1000000) (h2 : n 2 < 20) (h4 : n 4 ≤ 200) (hsz : ∀ i, i < 20 → n (10 + i) ≤ 200) (h5 : n 5 = 200) : xMi l yX5_file wsX5_file rmX5_file [.ref (ad 0), .int (nI a), .int (nI j)] D ca N ad B tR tK f (fun r u => nI (n 2) = r ∧ ∃ (z1 : Nat → Nat → Int32) (zn1 : Nat), RepX ca ad (va_up (va_up (va_up n 2 ((n 2) + 1)) 4 0) (10 + (n 2)) (n 4)) (va_up (va_up (va_up (va_up g 7 (upd (g 7) (n 2) (crc (n 4) (g 0)))) 8 (upd (g 8) (n 2) (nI a))) (100 + (n 2)) (cpyTo (g (100 + (n 2))) (g 0) (n 4))) (200 + (n 2)) (sha (n 4) (g 0))) z1 zn1 tb u ∧ ∀ y, 302 ≤ y → u y = f y) := by
  refine x_open (cc := cX5_file) (maxL := 5) (ret := (some .int)) (by decide) rfl (Nat.le_of_ble_eq_true rfl) ?_
  intro p e s m below meth c ls hx hb hml hown hts hr hlocks hnm hB hK hE hw hl
  have hown : s.vm.findClass RX5 = some m.cls := hown
  have hl : lv_has ls 5 [(0, .ref (ad 0)), (1, .int (nI a)), (2, .int (nI j))] := hl
  obtain ⟨c_0, c_1, c_2, c_3, c_4, c_5, c_6, c_7, c_8, c_9, c_90, c_91, c_92, c_93, c_94, c_95, c_96, c_97, c_98, c_99, c_300, c_301, F_kf, F_oc, F_va, F_lw, F_M, hzn, hT⟩ := hR
  have hin_6 : ∀ w ∈ u_ws RX5 TX5 13, w ∈ wsX5_file := by decide +kernel
  have hf_100 := hts (.fieldLink RX5 100 "FixityRows" "fileCount" "I") (by decide +kernel)
  have hf_49 := hts (.fieldLink RX5 49 "FixityRows" "files" "[LFixityRows$KeptFile;") (by decide +kernel)
  have hin_1 : ∀ w ∈ u_ws RX0 TX0 8, w ∈ wsX5_file := by decide +kernel
  have hf_39 := hts (.fieldLink RX5 39 "FixityRows" "collected" "LFixityRows$Octets;") (by decide +kernel)
  have hf_25 := hts (.fieldLink RX5 25 "FixityRows" "longDigest" "LFixityRows$LongDigest;") (by decide +kernel)
  have hf_32 := hts (.fieldLink RX5 32 "FixityRows" "shortDigest" "LFixityRows$ShortDigest;") (by decide +kernel)
  have hf_57 := hts (.fieldLink RX5 57 "FixityRows" "rows" "LFixityRows$RowChain;") (by decide +kernel)
  have b_0 := c_0
  have b_1 := c_1
  have b_2 := c_2
  have b_3 := c_3
  have b_4 := c_4
  have b_5 := c_5
  have b_6 := c_6
  have b_7 := c_7
  have b_8 := c_8
  have b_9 := c_9
  have b_90 := c_90
  have b_91 := c_91
  have b_92 := c_92
  have b_93 := c_93
  have b_94 := c_94
  have b_95 := c_95
  have b_96 := c_96
  have b_97 := c_97
  have b_98 := c_98
  have b_99 := c_99
  have b_300 := c_300
  have b_301 := c_301
  refine lv_iload_n hx hb dX5_file_0 rfl (lv_at hl 1 rfl) ?_
  refine lv_iconst (v := nI 1) hx hb dX5_file_1 (by decide) ?_
  refine n_iclt (tgt := 17) hx hb dX5_file_2 (by decide) (by omega) (by omega) (fun hc_2 => ?_) (fun hc_2 => ?_)
  · omega
  · refine lv_iload_n hx hb dX5_file_5 rfl (lv_at hl 1 rfl) ?_
    refine lv_iconst (v := nI 3) hx hb dX5_file_6 (by decide) ?_
    refine n_icgt (tgt := 17) hx hb dX5_file_7 (by decide) (by omega) (by omega) (fun hc_7 => ?_) (fun hc_7 => ?_)
    · omega
    · refine lv_iload_n hx hb dX5_file_10 rfl (lv_at hl 2 rfl) ?_
      refine x_Si (As := [.int (nI j)]) (rest := []) ⟨hx, hb, hml, hown, hts⟩ (k_X5_isDay_yes l D ca N ad B tR tK f dd j   (by omega)) (va_cwS 1 hts gX5_file_X5_isDay rfl rfl rfl (by decide +kernel) ⟨Nat.le_of_ble_eq_true rfl, Nat.le_of_ble_eq_true rfl⟩) hK hE hB hw rfl rfl hl.1 (Nat.le_of_ble_eq_true rfl) ⟨Nat.zero_le _, Nat.zero_le _⟩ dX5_file_11 (fun r_2 f_1 H locs hp hw => ?_)
      obtain ⟨er, eu⟩ := hp
      rw [← er]
      rw [← eu] at hw
      refine lv_if_ne (tgt := 20) hx hb dX5_file_14 (by decide) (fun _ => ?_) (fun h => absurd h (by decide))
      refine lv_aload_n hx hb dX5_file_20 rfl (lv_at hl 0 rfl) ?_
      refine x_get (ci := 6) (C := RX5) (T := TX5) (n := 13) (ref := RX5) hx hb hts hin_6 hown hK hw 0 (by omega) c_0 rfl 7 (by decide) hf_100 (fun _ h => h) rfl dX5_file_21 ?_
      refine lv_bipush (v := nI 20) hx hb dX5_file_24 (by decide) ?_
      refine n_iclt (tgt := 32) hx hb dX5_file_26 (by decide) (by omega) (by omega) (fun hc_26 => ?_) (fun hc_26 => ?_)
      · refine lv_aload_n hx hb dX5_file_32 rfl (lv_at hl 0 rfl) ?_
        refine x_get (ci := 6) (C := RX5) (T := TX5) (n := 13) (ref := RX5) hx hb hts hin_6 hown hK hw 0 (by omega) c_0 rfl 7 (by decide) hf_100 (fun _ h => h) rfl dX5_file_33 ?_
        refine lv_istore_n (lv' := [(3, .int (nI (n 2))), (0, .ref (ad 0)), (1, .int (nI a)), (2, .int (nI j))]) hx hb dX5_file_36 rfl hl (by decide) rfl (fun ls hl => ?_)
        refine lv_aload_n hx hb dX5_file_37 rfl (lv_at hl 1 rfl) ?_
        refine x_get (ci := 6) (C := RX5) (T := TX5) (n := 13) (ref := RX5) hx hb hts hin_6 hown hK hw 0 (by omega) c_0 rfl 6 (by decide) hf_49 (fun _ h => h) rfl dX5_file_38 ?_
        refine lv_iload_n hx hb dX5_file_41 rfl (lv_at hl 0 rfl) ?_
        refine x_aald (j := n 2) (a := ad (10 + 4 * (n 2))) hx hb hK hw 9 3 (by omega) c_9 rfl rfl (by omega) (by decide) rfl dX5_file_42 ?_
        refine lv_astore (lv' := [(4, .ref (ad (10 + 4 * (n 2)))), (3, .int (nI (n 2))), (0, .ref (ad 0)), (1, .int (nI a)), (2, .int (nI j))]) hx hb dX5_file_43 hl (by decide) rfl (fun ls hl => ?_)
        refine lv_aload hx hb dX5_file_45 (lv_at hl 0 rfl) ?_
        have c_10_4_n_2 : f (10 + 4 * (n 2)) = .inr (1, [.ref (ad (11 + 4 * (n 2))), .ref (ad (13 + 4 * (n 2))), .int (g 7 (n 2)), .int (g 8 (n 2)), .int (g 9 (n 2)), .int (g 10 (n 2)), .int (g 11 (n 2)), .int (g 12 (n 2))]) := (F_kf (n 2) (by omega))
        refine x_getN (ci := 1) (C := RX0) (T := TX0) (n := 8) (ref := RX0) hx hb hts hin_1 hown hK hw (10 + 4 * (n 2)) (by omega) c_10_4_n_2 rfl 0 (by decide) (hE.1 (103, "octets", "LFixityRows$Octets;") (by decide)) (fun _ h => h) rfl dX5_file_47 ?_
        refine lv_aload_n hx hb dX5_file_50 rfl (lv_at hl 2 rfl) ?_
        refine x_get (ci := 6) (C := RX5) (T := TX5) (n := 13) (ref := RX5) hx hb hts hin_6 hown hK hw 0 (by omega) c_0 rfl 3 (by decide) hf_39 (fun _ h => h) rfl dX5_file_51 ?_
        have c_11_4_n_2 : f (11 + 4 * (n 2)) = .inr (3, [.ref (ad (12 + 4 * (n 2))), .int (nI (n (10 + (n 2))))]) := (F_oc (n 2) (by omega))
        have c_12_4_n_2 : f (12 + 4 * (n 2)) = ai (ca 0) 200 (g (100 + (n 2))) := (F_va (n 2) (by omega))
        refine x_Vv (q := 11 + 4 * (n 2)) (As := [.ref (ad 6)]) (rest := []) ⟨hx, hb, hml, hown, hts⟩ (k_X2_copyFrom l D ca N ad B tR tK f dd (11 + 4 * (n 2)) (12 + 4 * (n 2)) (n (10 + (n 2))) (g (100 + (n 2))) 6 7 (n 4) (g 0) (by omega) c_11_4_n_2 (by omega) c_12_4_n_2 (by omega) c_6 (by omega) c_7  (by omega) (by omega) (by omega)) (cwV 1 hts gX5_file_X2_copyFrom rfl rfl rfl (by decide +kernel) ⟨Nat.le_of_ble_eq_true rfl, Nat.le_of_ble_eq_true rfl⟩) hK hE hB hw (by omega) c_11_4_n_2 rfl rfl rfl rfl hl.1 (Nat.le_of_ble_eq_true rfl) ⟨Nat.zero_le _, Nat.zero_le _⟩ dX5_file_54 (fun f_3 H locs hp hw => ?_)
        have eu := hp
        have ef_3 : f_3 = va_up (va_up f (11 + 4 * (n 2)) (.inr (3, [.ref (ad (12 + 4 * (n 2))), .int (nI (n 4))]))) (12 + 4 * (n 2)) (ai (ca 0) 200 (cpyTo (g (100 + (n 2))) (g 0) (n 4))) := eu
        have c_11_4_n_2 : f_3 (11 + 4 * (n 2)) = .inr (3, [.ref (ad (12 + 4 * (n 2))), .int (nI (n 4))]) := by rw [ef_3, va_up_ne _ _ (by omega), va_up_self]
        have c_12_4_n_2 : f_3 (12 + 4 * (n 2)) = ai (ca 0) 200 (cpyTo (g (100 + (n 2))) (g 0) (n 4)) := by rw [ef_3, va_up_self]
        refine lv_aload hx hb dX5_file_57 (lv_at hl 0 rfl) ?_
        refine lv_iload_n hx hb dX5_file_59 rfl (lv_at hl 3 rfl) ?_
        have c_10_4_n_2 : f_3 (10 + 4 * (n 2)) = .inr (1, [.ref (ad (11 + 4 * (n 2))), .ref (ad (13 + 4 * (n 2))), .int (g 7 (n 2)), .int (g 8 (n 2)), .int (g 9 (n 2)), .int (g 10 (n 2)), .int (g 11 (n 2)), .int (g 12 (n 2))]) := by rw [ef_3, va_up_ne _ _ (by omega), va_up_ne _ _ (by omega)]; exact c_10_4_n_2
        refine x_putN (ci := 1) (C := RX0) (T := TX0) (n := 8) (ref := RX0) (fs' := [.ref (ad (11 + 4 * (n 2))), .ref (ad (13 + 4 * (n 2))), .int (g 7 (n 2)), .int (nI a), .int (g 9 (n 2)), .int (g 10 (n 2)), .int (g 11 (n 2)), .int (g 12 (n 2))]) hx hb hts hin_1 tyX0 tyX0_ok nmX0 hown hK dd hw (10 + 4 * (n 2)) (by omega) c_10_4_n_2 rfl 3 (by decide) (hE.1 (109, "algorithms", "I") (by decide)) (fun _ h => h) rfl rfl rfl (Nat.le_of_ble_eq_true rfl) rfl dX5_file_60 (fun H locs hw => ?_)
        obtain ⟨f_5, ef_5⟩ : ∃ z, z = va_up f_3 (10 + 4 * (n 2)) (.inr (1, [.ref (ad (11 + 4 * (n 2))), .ref (ad (13 + 4 * (n 2))), .int (g 7 (n 2)), .int (nI a), .int (g 9 (n 2)), .int (g 10 (n 2)), .int (g 11 (n 2)), .int (g 12 (n 2))])) := ⟨_, rfl⟩
        have hw : xw D vwCl N ad B s.heap f_5 H locs := by rw [ef_5]; exact hw
        have c_10_4_n_2 : f_5 (10 + 4 * (n 2)) = .inr (1, [.ref (ad (11 + 4 * (n 2))), .ref (ad (13 + 4 * (n 2))), .int (g 7 (n 2)), .int (nI a), .int (g 9 (n 2)), .int (g 10 (n 2)), .int (g 11 (n 2)), .int (g 12 (n 2))]) := va_up_of ef_5
        refine lv_aload_n hx hb dX5_file_63 rfl (lv_at hl 2 rfl) ?_
        have c_0 : f_5 0 = .inr (6, [.int (nI (n 0)), .ref (ad 1), .ref (ad 4), .ref (ad 6), .ref (ad 8), .int (nI (n 1)), .ref (ad 9), .int (nI (n 2)), .ref (ad 90), .ref (ad 300), .ref (ad 301), .int (nI (n 3)), .int (g 13 0)]) := by rw [ef_5, va_up_ne _ _ (by omega), ef_3, va_up_ne _ _ (by omega), va_up_ne _ _ (by omega)]; exact c_0
        refine x_get (ci := 6) (C := RX5) (T := TX5) (n := 13) (ref := RX5) hx hb hts hin_6 hown hK hw 0 (by omega) c_0 rfl 1 (by decide) hf_25 (fun _ h => h) rfl dX5_file_64 ?_
        refine lv_aload_n hx hb dX5_file_67 rfl (lv_at hl 2 rfl) ?_
        refine x_get (ci := 6) (C := RX5) (T := TX5) (n := 13) (ref := RX5) hx hb hts hin_6 hown hK hw 0 (by omega) c_0 rfl 3 (by decide) hf_39 (fun _ h => h) rfl dX5_file_68 ?_
        have c_1 : f_5 1 = .inr (2, [.ref (ad 2), .ref (ad 3)]) := by rw [ef_5, va_up_ne _ _ (by omega), ef_3, va_up_ne _ _ (by omega), va_up_ne _ _ (by omega)]; exact c_1
        have c_2 : f_5 2 = ai (ca 0) 8 (z 0) := by rw [ef_5, va_up_ne _ _ (by omega), ef_3, va_up_ne _ _ (by omega), va_up_ne _ _ (by omega)]; exact c_2
        have c_3 : f_5 3 = ai (ca 0) 64 (z 1) := by rw [ef_5, va_up_ne _ _ (by omega), ef_3, va_up_ne _ _ (by omega), va_up_ne _ _ (by omega)]; exact c_3
        have c_6 : f_5 6 = .inr (3, [.ref (ad 7), .int (nI (n 4))]) := by rw [ef_5, va_up_ne _ _ (by omega), ef_3, va_up_ne _ _ (by omega), va_up_ne _ _ (by omega)]; exact c_6
        have c_7 : f_5 7 = ai (ca 0) 200 (g 0) := by rw [ef_5, va_up_ne _ _ (by omega), ef_3, va_up_ne _ _ (by omega), va_up_ne _ _ (by omega)]; exact c_7
        refine x_Vv (q := 1) (As := [.ref (ad 6)]) (rest := []) ⟨hx, hb, hml, hown, hts⟩ (k_X1_compute l D ca N ad B tR tK f_5 dd 1 2 3 (z 0) (z 1) 6 7 (n 4) (g 0) (by omega) c_1 (by omega) c_2 (by omega) c_3 (by omega) c_6 (by omega) c_7  (by omega) (by omega) (by omega) (by omega)) (cwV 1 hts gX5_file_X1_compute rfl rfl rfl (by decide +kernel) ⟨Nat.le_of_ble_eq_true rfl, Nat.le_of_ble_eq_true rfl⟩) hK hE hB hw (by omega) c_1 rfl rfl rfl rfl hl.1 (Nat.le_of_ble_eq_true rfl) ⟨Nat.zero_le _, Nat.zero_le _⟩ dX5_file_71 (fun f_6 H locs hp hw => ?_)
        obtain ⟨w1_8, e1_9, hq_10, eu⟩ := hp
        have ef_6 : f_6 = va_up (va_up f_5 3 (ai (ca 0) 64 w1_8)) 2 (ai (ca 0) 8 e1_9) := eu
        have c_3 : f_6 3 = ai (ca 0) 64 w1_8 := by rw [ef_6, va_up_ne _ _ (by decide), va_up_self]
        have c_2 : f_6 2 = ai (ca 0) 8 e1_9 := by rw [ef_6, va_up_self]
        refine lv_aload_n hx hb dX5_file_74 rfl (lv_at hl 2 rfl) ?_
        have c_0 : f_6 0 = .inr (6, [.int (nI (n 0)), .ref (ad 1), .ref (ad 4), .ref (ad 6), .ref (ad 8), .int (nI (n 1)), .ref (ad 9), .int (nI (n 2)), .ref (ad 90), .ref (ad 300), .ref (ad 301), .int (nI (n 3)), .int (g 13 0)]) := by rw [ef_6, va_up_ne _ _ (by decide), va_up_ne _ _ (by decide)]; exact c_0
        refine x_get (ci := 6) (C := RX5) (T := TX5) (n := 13) (ref := RX5) hx hb hts hin_6 hown hK hw 0 (by omega) c_0 rfl 1 (by decide) hf_25 (fun _ h => h) rfl dX5_file_75 ?_
        refine lv_aload hx hb dX5_file_78 (lv_at hl 0 rfl) ?_
        have c_10_4_n_2 : f_6 (10 + 4 * (n 2)) = .inr (1, [.ref (ad (11 + 4 * (n 2))), .ref (ad (13 + 4 * (n 2))), .int (g 7 (n 2)), .int (nI a), .int (g 9 (n 2)), .int (g 10 (n 2)), .int (g 11 (n 2)), .int (g 12 (n 2))]) := by rw [ef_6, va_up_ne _ _ (by omega), va_up_ne _ _ (by omega)]; exact c_10_4_n_2
        refine x_getN (ci := 1) (C := RX0) (T := TX0) (n := 8) (ref := RX0) hx hb hts hin_1 hown hK hw (10 + 4 * (n 2)) (by omega) c_10_4_n_2 rfl 1 (by decide) (hE.1 (112, "longWords", "[I") (by decide)) (fun _ h => h) rfl dX5_file_80 ?_
        have c_1 : f_6 1 = .inr (2, [.ref (ad 2), .ref (ad 3)]) := by rw [ef_6, va_up_ne _ _ (by decide), va_up_ne _ _ (by decide)]; exact c_1
        have c_13_4_n_2 : f_6 (13 + 4 * (n 2)) = ai (ca 0) 8 (g (200 + (n 2))) := by rw [ef_6, va_up_ne _ _ (by omega), va_up_ne _ _ (by omega), ef_5, va_up_ne _ _ (by omega), ef_3, va_up_ne _ _ (by omega), va_up_ne _ _ (by omega)]; exact (F_lw (n 2) (by omega))
        refine x_Vv (q := 1) (As := [.ref (ad (13 + 4 * (n 2)))]) (rest := []) ⟨hx, hb, hml, hown, hts⟩ (k_X1_copyTo l D ca N ad B tR tK f_6 dd 1 2 3 e1_9 (13 + 4 * (n 2)) (g (200 + (n 2))) (by omega) c_1 (by omega) c_2 (by omega) c_13_4_n_2  (by omega)) (cwV 1 hts gX5_file_X1_copyTo rfl rfl rfl (by decide +kernel) ⟨Nat.le_of_ble_eq_true rfl, Nat.le_of_ble_eq_true rfl⟩) hK hE hB hw (by omega) c_1 rfl rfl rfl rfl hl.1 (Nat.le_of_ble_eq_true rfl) ⟨Nat.zero_le _, Nat.zero_le _⟩ dX5_file_83 (fun f_11 H locs hp hw => ?_)
        have eu := hp
        have ef_11 : f_11 = va_up f_6 (13 + 4 * (n 2)) (ai (ca 0) 8 (cpyTo (g (200 + (n 2))) e1_9 8)) := eu
        have c_13_4_n_2 : f_11 (13 + 4 * (n 2)) = ai (ca 0) 8 (cpyTo (g (200 + (n 2))) e1_9 8) := by rw [ef_11, va_up_self]
        obtain ⟨f_13, ef_13⟩ : ∃ z, z = va_up f_6 (13 + 4 * (n 2)) (ai (ca 0) 8 (sha (n 4) (g 0))) := ⟨_, rfl⟩
        have hw : xw D vwCl N ad B s.heap f_13 H locs := by rw [ef_13]; exact xw.arr (by rw [← ef_11]; exact hw) (fun j hj => by rw [cp_in hj, hq_10 j hj])
        have c_13_4_n_2 : f_13 (13 + 4 * (n 2)) = ai (ca 0) 8 (sha (n 4) (g 0)) := va_up_of ef_13
        refine lv_aload hx hb dX5_file_86 (lv_at hl 0 rfl) ?_
        refine lv_aload_n hx hb dX5_file_88 rfl (lv_at hl 2 rfl) ?_
        have c_0 : f_13 0 = .inr (6, [.int (nI (n 0)), .ref (ad 1), .ref (ad 4), .ref (ad 6), .ref (ad 8), .int (nI (n 1)), .ref (ad 9), .int (nI (n 2)), .ref (ad 90), .ref (ad 300), .ref (ad 301), .int (nI (n 3)), .int (g 13 0)]) := by rw [ef_13, va_up_ne _ _ (by omega)]; exact c_0
        refine x_get (ci := 6) (C := RX5) (T := TX5) (n := 13) (ref := RX5) hx hb hts hin_6 hown hK hw 0 (by omega) c_0 rfl 2 (by decide) hf_32 (fun _ h => h) rfl dX5_file_89 ?_
        refine lv_aload_n hx hb dX5_file_92 rfl (lv_at hl 2 rfl) ?_
        refine x_get (ci := 6) (C := RX5) (T := TX5) (n := 13) (ref := RX5) hx hb hts hin_6 hown hK hw 0 (by omega) c_0 rfl 3 (by decide) hf_39 (fun _ h => h) rfl dX5_file_93 ?_
        have c_4 : f_13 4 = .inr (5, [.ref (ad 5)]) := by rw [ef_13, va_up_ne _ _ (by omega), ef_6, va_up_ne _ _ (by decide), va_up_ne _ _ (by decide), ef_5, va_up_ne _ _ (by omega), ef_3, va_up_ne _ _ (by omega), va_up_ne _ _ (by omega)]; exact c_4
        have c_5 : f_13 5 = ai (ca 0) 256 tb := by rw [ef_13, va_up_ne _ _ (by omega), ef_6, va_up_ne _ _ (by decide), va_up_ne _ _ (by decide), ef_5, va_up_ne _ _ (by omega), ef_3, va_up_ne _ _ (by omega), va_up_ne _ _ (by omega)]; exact c_5
        have c_6 : f_13 6 = .inr (3, [.ref (ad 7), .int (nI (n 4))]) := by rw [ef_13, va_up_ne _ _ (by omega), ef_6, va_up_ne _ _ (by decide), va_up_ne _ _ (by decide)]; exact c_6
        have c_7 : f_13 7 = ai (ca 0) 200 (g 0) := by rw [ef_13, va_up_ne _ _ (by omega), ef_6, va_up_ne _ _ (by decide), va_up_ne _ _ (by decide)]; exact c_7
        refine x_Vi (q := 4) (As := [.ref (ad 6)]) (rest := [.ref (ad (10 + 4 * (n 2)))]) ⟨hx, hb, hml, hown, hts⟩ (k_X4_compute l D ca N ad B tR tK f_13 dd 4 5 tb 6 7 (n 4) (g 0) (by omega) c_4 (by omega) c_5 (by omega) c_6 (by omega) c_7  (by omega) hT) (cwV 1 hts gX5_file_X4_compute rfl rfl rfl (by decide +kernel) ⟨Nat.le_of_ble_eq_true rfl, Nat.le_of_ble_eq_true rfl⟩) hK hE hB hw (by omega) c_4 rfl rfl rfl rfl hl.1 (Nat.le_of_ble_eq_true rfl) ⟨Nat.zero_le _, Nat.zero_le _⟩ dX5_file_96 (fun r_15 f_14 H locs hp hw => ?_)
        obtain ⟨er, eu⟩ := hp
        rw [← er]
        rw [← eu] at hw
        refine lv_topi (fun x_16 ex_16 => ?_)
        have c_10_4_n_2 : f_13 (10 + 4 * (n 2)) = .inr (1, [.ref (ad (11 + 4 * (n 2))), .ref (ad (13 + 4 * (n 2))), .int (g 7 (n 2)), .int (nI a), .int (g 9 (n 2)), .int (g 10 (n 2)), .int (g 11 (n 2)), .int (g 12 (n 2))]) := by rw [ef_13, va_up_ne _ _ (by omega)]; exact c_10_4_n_2
        refine x_putN (ci := 1) (C := RX0) (T := TX0) (n := 8) (ref := RX0) (fs' := [.ref (ad (11 + 4 * (n 2))), .ref (ad (13 + 4 * (n 2))), .int x_16, .int (nI a), .int (g 9 (n 2)), .int (g 10 (n 2)), .int (g 11 (n 2)), .int (g 12 (n 2))]) hx hb hts hin_1 tyX0 tyX0_ok nmX0 hown hK dd hw (10 + 4 * (n 2)) (by omega) c_10_4_n_2 rfl 2 (by decide) (hE.1 (115, "shortWord", "I") (by decide)) (fun _ h => h) rfl rfl rfl (Nat.le_of_ble_eq_true rfl) rfl dX5_file_99 (fun H locs hw => ?_)
        obtain ⟨f_17, ef_17⟩ : ∃ z, z = va_up f_13 (10 + 4 * (n 2)) (.inr (1, [.ref (ad (11 + 4 * (n 2))), .ref (ad (13 + 4 * (n 2))), .int x_16, .int (nI a), .int (g 9 (n 2)), .int (g 10 (n 2)), .int (g 11 (n 2)), .int (g 12 (n 2))])) := ⟨_, rfl⟩
        have hw : xw D vwCl N ad B s.heap f_17 H locs := by rw [ef_17]; exact hw
        have c_10_4_n_2 : f_17 (10 + 4 * (n 2)) = .inr (1, [.ref (ad (11 + 4 * (n 2))), .ref (ad (13 + 4 * (n 2))), .int x_16, .int (nI a), .int (g 9 (n 2)), .int (g 10 (n 2)), .int (g 11 (n 2)), .int (g 12 (n 2))]) := va_up_of ef_17
        refine lv_aload_n hx hb dX5_file_102 rfl (lv_at hl 2 rfl) ?_
        refine lv_dup hx hb dX5_file_103 rfl ?_
        have c_0 : f_17 0 = .inr (6, [.int (nI (n 0)), .ref (ad 1), .ref (ad 4), .ref (ad 6), .ref (ad 8), .int (nI (n 1)), .ref (ad 9), .int (nI (n 2)), .ref (ad 90), .ref (ad 300), .ref (ad 301), .int (nI (n 3)), .int (g 13 0)]) := by rw [ef_17, va_up_ne _ _ (by omega)]; exact c_0
        refine x_get (ci := 6) (C := RX5) (T := TX5) (n := 13) (ref := RX5) hx hb hts hin_6 hown hK hw 0 (by omega) c_0 rfl 7 (by decide) hf_100 (fun _ h => h) rfl dX5_file_104 ?_
        refine lv_iconst (v := nI 1) hx hb dX5_file_107 (by decide) ?_
        refine n_iadd hx hb dX5_file_108 ?_
        refine x_put (ci := 6) (C := RX5) (T := TX5) (n := 13) (ref := RX5) (fs' := [.int (nI (n 0)), .ref (ad 1), .ref (ad 4), .ref (ad 6), .ref (ad 8), .int (nI (n 1)), .ref (ad 9), .int (nI ((n 2) + 1)), .ref (ad 90), .ref (ad 300), .ref (ad 301), .int (nI (n 3)), .int (g 13 0)]) hx hb hts hin_6 tyX5 tyX5_ok nmX5 hown hK dd hw 0 (by omega) c_0 rfl 7 (by decide) hf_100 (fun _ h => h) rfl rfl rfl (Nat.le_of_ble_eq_true rfl) rfl dX5_file_109 (fun H locs hw => ?_)
        obtain ⟨f_18, ef_18⟩ : ∃ z, z = va_up f_17 0 (.inr (6, [.int (nI (n 0)), .ref (ad 1), .ref (ad 4), .ref (ad 6), .ref (ad 8), .int (nI (n 1)), .ref (ad 9), .int (nI ((n 2) + 1)), .ref (ad 90), .ref (ad 300), .ref (ad 301), .int (nI (n 3)), .int (g 13 0)])) := ⟨_, rfl⟩
        have hw : xw D vwCl N ad B s.heap f_18 H locs := by rw [ef_18]; exact hw
        have c_0 : f_18 0 = .inr (6, [.int (nI (n 0)), .ref (ad 1), .ref (ad 4), .ref (ad 6), .ref (ad 8), .int (nI (n 1)), .ref (ad 9), .int (nI ((n 2) + 1)), .ref (ad 90), .ref (ad 300), .ref (ad 301), .int (nI (n 3)), .int (g 13 0)]) := va_up_of ef_18
        refine lv_aload_n hx hb dX5_file_112 rfl (lv_at hl 2 rfl) ?_
        refine x_get (ci := 6) (C := RX5) (T := TX5) (n := 13) (ref := RX5) hx hb hts hin_6 hown hK hw 0 (by omega) c_0 rfl 3 (by decide) hf_39 (fun _ h => h) rfl dX5_file_113 ?_
        refine lv_iconst (v := nI 0) hx hb dX5_file_116 (by decide) ?_
        have c_6 : f_18 6 = .inr (3, [.ref (ad 7), .int (nI (n 4))]) := by rw [ef_18, va_up_ne _ _ (by decide), ef_17, va_up_ne _ _ (by omega)]; exact c_6
        refine x_Vv (q := 6) (As := [.int (nI 0)]) (rest := []) ⟨hx, hb, hml, hown, hts⟩ (k_X2_shorten_zero l D ca N ad B tR tK f_18 dd 6 7 (n 4) (by omega) c_6  (by omega)) (cwV 1 hts gX5_file_X2_shorten rfl rfl rfl (by decide +kernel) ⟨Nat.le_of_ble_eq_true rfl, Nat.le_of_ble_eq_true rfl⟩) hK hE hB hw (by omega) c_6 rfl rfl rfl rfl hl.1 (Nat.le_of_ble_eq_true rfl) ⟨Nat.zero_le _, Nat.zero_le _⟩ dX5_file_117 (fun f_19 H locs hp hw => ?_)
        have eu := hp
        have ef_19 : f_19 = va_up f_18 6 (.inr (3, [.ref (ad 7), .int (nI 0)])) := eu
        have c_6 : f_19 6 = .inr (3, [.ref (ad 7), .int (nI 0)]) := by rw [ef_19, va_up_self]
        refine lv_aload_n hx hb dX5_file_120 rfl (lv_at hl 2 rfl) ?_
        have c_0 : f_19 0 = .inr (6, [.int (nI (n 0)), .ref (ad 1), .ref (ad 4), .ref (ad 6), .ref (ad 8), .int (nI (n 1)), .ref (ad 9), .int (nI ((n 2) + 1)), .ref (ad 90), .ref (ad 300), .ref (ad 301), .int (nI (n 3)), .int (g 13 0)]) := by rw [ef_19, va_up_ne _ _ (by decide)]; exact c_0
        refine x_get (ci := 6) (C := RX5) (T := TX5) (n := 13) (ref := RX5) hx hb hts hin_6 hown hK hw 0 (by omega) c_0 rfl 8 (by decide) hf_57 (fun _ h => h) rfl dX5_file_121 ?_
        refine lv_iconst (v := nI 0) hx hb dX5_file_124 (by decide) ?_
        refine lv_iload_n hx hb dX5_file_125 rfl (lv_at hl 1 rfl) ?_
        refine lv_iload_n hx hb dX5_file_126 rfl (lv_at hl 4 rfl) ?_
        have c_90 : f_19 90 = .inr (4, [.ref (ad 91), .ref (ad 94), .ref (ad 96), .ref (ad 97), .ref (ad 98), .ref (ad 99), .int (nI (n 5))]) := by rw [ef_19, va_up_ne _ _ (by decide), ef_18, va_up_ne _ _ (by decide), ef_17, va_up_ne _ _ (by omega), ef_13, va_up_ne _ _ (by omega), ef_6, va_up_ne _ _ (by decide), va_up_ne _ _ (by decide), ef_5, va_up_ne _ _ (by omega), ef_3, va_up_ne _ _ (by omega), va_up_ne _ _ (by omega)]; exact c_90
        refine x_Vv (q := 90) (As := [.int (nI 0), .int (nI (n 2)), .int (nI j)]) (rest := []) ⟨hx, hb, hml, hown, hts⟩ (k_X3_append_full l D ca N ad B tR tK f_19 dd (n 5) (nI 0) (nI (n 2)) (nI j) c_90  (by omega) (by omega)) (cwV 3 hts gX5_file_X3_append rfl rfl rfl (by decide +kernel) ⟨Nat.le_of_ble_eq_true rfl, Nat.le_of_ble_eq_true rfl⟩) hK hE hB hw (by omega) c_90 rfl rfl rfl rfl hl.1 (Nat.le_of_ble_eq_true rfl) ⟨Nat.zero_le _, Nat.zero_le _⟩ dX5_file_127 (fun f_21 H locs hp hw => ?_)
        have eu := hp
        rw [← eu] at hw
        refine lv_iload_n hx hb dX5_file_130 rfl (lv_at hl 1 rfl) ?_
        have c_1 : f_19 1 = .inr (2, [.ref (ad 2), .ref (ad 3)]) := by rw [ef_19, va_up_ne _ _ (by decide), ef_18, va_up_ne _ _ (by decide), ef_17, va_up_ne _ _ (by omega), ef_13, va_up_ne _ _ (by omega)]; exact c_1
        have c_2 : f_19 2 = ai (ca 0) 8 e1_9 := by rw [ef_19, va_up_ne _ _ (by decide), ef_18, va_up_ne _ _ (by decide), ef_17, va_up_ne _ _ (by omega), ef_13, va_up_ne _ _ (by omega)]; exact c_2
        have c_3 : f_19 3 = ai (ca 0) 64 w1_8 := by rw [ef_19, va_up_ne _ _ (by decide), ef_18, va_up_ne _ _ (by decide), ef_17, va_up_ne _ _ (by omega), ef_13, va_up_ne _ _ (by omega)]; exact c_3
        have c_4 : f_19 4 = .inr (5, [.ref (ad 5)]) := by rw [ef_19, va_up_ne _ _ (by decide), ef_18, va_up_ne _ _ (by decide), ef_17, va_up_ne _ _ (by omega)]; exact c_4
        have c_5 : f_19 5 = ai (ca 0) 256 tb := by rw [ef_19, va_up_ne _ _ (by decide), ef_18, va_up_ne _ _ (by decide), ef_17, va_up_ne _ _ (by omega)]; exact c_5
        have c_7 : f_19 7 = ai (ca 0) 200 (g 0) := by rw [ef_19, va_up_ne _ _ (by decide), ef_18, va_up_ne _ _ (by decide), ef_17, va_up_ne _ _ (by omega)]; exact c_7
        have c_8 : f_19 8 = ai (ca 0) 8 (g 1) := by rw [ef_19, va_up_ne _ _ (by decide), ef_18, va_up_ne _ _ (by decide), ef_17, va_up_ne _ _ (by omega), ef_13, va_up_ne _ _ (by omega), ef_6, va_up_ne _ _ (by decide), va_up_ne _ _ (by decide), ef_5, va_up_ne _ _ (by omega), ef_3, va_up_ne _ _ (by omega), va_up_ne _ _ (by omega)]; exact c_8
        have c_9 : f_19 9 = aq (ca 3) 20 (fun i => some (ad (10 + 4 * i))) := by rw [ef_19, va_up_ne _ _ (by decide), ef_18, va_up_ne _ _ (by decide), ef_17, va_up_ne _ _ (by omega), ef_13, va_up_ne _ _ (by omega), ef_6, va_up_ne _ _ (by decide), va_up_ne _ _ (by decide), ef_5, va_up_ne _ _ (by omega), ef_3, va_up_ne _ _ (by omega), va_up_ne _ _ (by omega)]; exact c_9
        have c_91 : f_19 91 = .inr (2, [.ref (ad 92), .ref (ad 93)]) := by rw [ef_19, va_up_ne _ _ (by decide), ef_18, va_up_ne _ _ (by decide), ef_17, va_up_ne _ _ (by omega), ef_13, va_up_ne _ _ (by omega), ef_6, va_up_ne _ _ (by decide), va_up_ne _ _ (by decide), ef_5, va_up_ne _ _ (by omega), ef_3, va_up_ne _ _ (by omega), va_up_ne _ _ (by omega)]; exact c_91
        have c_92 : f_19 92 = ai (ca 0) 8 (z 2) := by rw [ef_19, va_up_ne _ _ (by decide), ef_18, va_up_ne _ _ (by decide), ef_17, va_up_ne _ _ (by omega), ef_13, va_up_ne _ _ (by omega), ef_6, va_up_ne _ _ (by decide), va_up_ne _ _ (by decide), ef_5, va_up_ne _ _ (by omega), ef_3, va_up_ne _ _ (by omega), va_up_ne _ _ (by omega)]; exact c_92
        have c_93 : f_19 93 = ai (ca 0) 64 (z 3) := by rw [ef_19, va_up_ne _ _ (by decide), ef_18, va_up_ne _ _ (by decide), ef_17, va_up_ne _ _ (by omega), ef_13, va_up_ne _ _ (by omega), ef_6, va_up_ne _ _ (by decide), va_up_ne _ _ (by decide), ef_5, va_up_ne _ _ (by omega), ef_3, va_up_ne _ _ (by omega), va_up_ne _ _ (by omega)]; exact c_93
        have c_94 : f_19 94 = .inr (3, [.ref (ad 95), .int (nI zn)]) := by rw [ef_19, va_up_ne _ _ (by decide), ef_18, va_up_ne _ _ (by decide), ef_17, va_up_ne _ _ (by omega), ef_13, va_up_ne _ _ (by omega), ef_6, va_up_ne _ _ (by decide), va_up_ne _ _ (by decide), ef_5, va_up_ne _ _ (by omega), ef_3, va_up_ne _ _ (by omega), va_up_ne _ _ (by omega)]; exact c_94
        have c_95 : f_19 95 = ai (ca 0) 200 (z 4) := by rw [ef_19, va_up_ne _ _ (by decide), ef_18, va_up_ne _ _ (by decide), ef_17, va_up_ne _ _ (by omega), ef_13, va_up_ne _ _ (by omega), ef_6, va_up_ne _ _ (by decide), va_up_ne _ _ (by decide), ef_5, va_up_ne _ _ (by omega), ef_3, va_up_ne _ _ (by omega), va_up_ne _ _ (by omega)]; exact c_95
        have c_96 : f_19 96 = ai (ca 0) 200 (g 4) := by rw [ef_19, va_up_ne _ _ (by decide), ef_18, va_up_ne _ _ (by decide), ef_17, va_up_ne _ _ (by omega), ef_13, va_up_ne _ _ (by omega), ef_6, va_up_ne _ _ (by decide), va_up_ne _ _ (by decide), ef_5, va_up_ne _ _ (by omega), ef_3, va_up_ne _ _ (by omega), va_up_ne _ _ (by omega)]; exact c_96
        have c_97 : f_19 97 = ai (ca 0) 200 (g 5) := by rw [ef_19, va_up_ne _ _ (by decide), ef_18, va_up_ne _ _ (by decide), ef_17, va_up_ne _ _ (by omega), ef_13, va_up_ne _ _ (by omega), ef_6, va_up_ne _ _ (by decide), va_up_ne _ _ (by decide), ef_5, va_up_ne _ _ (by omega), ef_3, va_up_ne _ _ (by omega), va_up_ne _ _ (by omega)]; exact c_97
        have c_98 : f_19 98 = ai (ca 0) 200 (g 6) := by rw [ef_19, va_up_ne _ _ (by decide), ef_18, va_up_ne _ _ (by decide), ef_17, va_up_ne _ _ (by omega), ef_13, va_up_ne _ _ (by omega), ef_6, va_up_ne _ _ (by decide), va_up_ne _ _ (by decide), ef_5, va_up_ne _ _ (by omega), ef_3, va_up_ne _ _ (by omega), va_up_ne _ _ (by omega)]; exact c_98
        have c_99 : f_19 99 = aq (ca 4) 200 (fun i => some (ad (100 + i))) := by rw [ef_19, va_up_ne _ _ (by decide), ef_18, va_up_ne _ _ (by decide), ef_17, va_up_ne _ _ (by omega), ef_13, va_up_ne _ _ (by omega), ef_6, va_up_ne _ _ (by decide), va_up_ne _ _ (by decide), ef_5, va_up_ne _ _ (by omega), ef_3, va_up_ne _ _ (by omega), va_up_ne _ _ (by omega)]; exact c_99
        have c_300 : f_19 300 = ai (ca 0) 20 (g 2) := by rw [ef_19, va_up_ne _ _ (by decide), ef_18, va_up_ne _ _ (by decide), ef_17, va_up_ne _ _ (by omega), ef_13, va_up_ne _ _ (by omega), ef_6, va_up_ne _ _ (by decide), va_up_ne _ _ (by decide), ef_5, va_up_ne _ _ (by omega), ef_3, va_up_ne _ _ (by omega), va_up_ne _ _ (by omega)]; exact c_300
        have c_301 : f_19 301 = ai (ca 2) 20 (g 3) := by rw [ef_19, va_up_ne _ _ (by decide), ef_18, va_up_ne _ _ (by decide), ef_17, va_up_ne _ _ (by omega), ef_13, va_up_ne _ _ (by omega), ef_6, va_up_ne _ _ (by decide), va_up_ne _ _ (by decide), ef_5, va_up_ne _ _ (by omega), ef_3, va_up_ne _ _ (by omega), va_up_ne _ _ (by omega)]; exact c_301
        have c_10_4_n_2 : f_19 (10 + 4 * (n 2)) = .inr (1, [.ref (ad (11 + 4 * (n 2))), .ref (ad (13 + 4 * (n 2))), .int x_16, .int (nI a), .int (g 9 (n 2)), .int (g 10 (n 2)), .int (g 11 (n 2)), .int (g 12 (n 2))]) := by rw [ef_19, va_up_ne _ _ (by omega), ef_18, va_up_ne _ _ (by omega)]; exact c_10_4_n_2
        have c_10_4_n_2 : f_19 (10 + 4 * (n 2)) = .inr (1, [.ref (ad (11 + 4 * (n 2))), .ref (ad (13 + 4 * (n 2))), .int (crc (n 4) (g 0)), .int (nI a), .int (g 9 (n 2)), .int (g 10 (n 2)), .int (g 11 (n 2)), .int (g 12 (n 2))]) := by rw [c_10_4_n_2]; simp only [ex_16]
        have c_11_4_n_2 : f_19 (11 + 4 * (n 2)) = .inr (3, [.ref (ad (12 + 4 * (n 2))), .int (nI (n 4))]) := by rw [ef_19, va_up_ne _ _ (by omega), ef_18, va_up_ne _ _ (by omega), ef_17, va_up_ne _ _ (by omega), ef_13, va_up_ne _ _ (by omega), ef_6, va_up_ne _ _ (by omega), va_up_ne _ _ (by omega), ef_5, va_up_ne _ _ (by omega)]; exact c_11_4_n_2
        have c_12_4_n_2 : f_19 (12 + 4 * (n 2)) = ai (ca 0) 200 (cpyTo (g (100 + (n 2))) (g 0) (n 4)) := by rw [ef_19, va_up_ne _ _ (by omega), ef_18, va_up_ne _ _ (by omega), ef_17, va_up_ne _ _ (by omega), ef_13, va_up_ne _ _ (by omega), ef_6, va_up_ne _ _ (by omega), va_up_ne _ _ (by omega), ef_5, va_up_ne _ _ (by omega)]; exact c_12_4_n_2
        have c_13_4_n_2 : f_19 (13 + 4 * (n 2)) = ai (ca 0) 8 (sha (n 4) (g 0)) := by rw [ef_19, va_up_ne _ _ (by omega), ef_18, va_up_ne _ _ (by omega), ef_17, va_up_ne _ _ (by omega)]; exact c_13_4_n_2
        have qn_0 : (va_up (va_up (va_up n 2 ((n 2) + 1)) 4 0) (10 + (n 2)) (n 4)) 0 = n 0 := by rw [va_up_ne _ _ (by omega), va_up_ne _ _ (by decide), va_up_ne _ _ (by decide)]
        have qn_1 : (va_up (va_up (va_up n 2 ((n 2) + 1)) 4 0) (10 + (n 2)) (n 4)) 1 = n 1 := by rw [va_up_ne _ _ (by omega), va_up_ne _ _ (by decide), va_up_ne _ _ (by decide)]
        have qn_2 : (va_up (va_up (va_up n 2 ((n 2) + 1)) 4 0) (10 + (n 2)) (n 4)) 2 = (n 2) + 1 := by rw [va_up_ne _ _ (by omega), va_up_ne _ _ (by decide), va_up_self]
        have qn_3 : (va_up (va_up (va_up n 2 ((n 2) + 1)) 4 0) (10 + (n 2)) (n 4)) 3 = n 3 := by rw [va_up_ne _ _ (by omega), va_up_ne _ _ (by decide), va_up_ne _ _ (by decide)]
        have qn_4 : (va_up (va_up (va_up n 2 ((n 2) + 1)) 4 0) (10 + (n 2)) (n 4)) 4 = 0 := by rw [va_up_ne _ _ (by omega), va_up_self]
        have qn_5 : (va_up (va_up (va_up n 2 ((n 2) + 1)) 4 0) (10 + (n 2)) (n 4)) 5 = n 5 := by rw [va_up_ne _ _ (by omega), va_up_ne _ _ (by decide), va_up_ne _ _ (by decide)]
        have qg_0 : (va_up (va_up (va_up (va_up g 7 (upd (g 7) (n 2) (crc (n 4) (g 0)))) 8 (upd (g 8) (n 2) (nI a))) (100 + (n 2)) (cpyTo (g (100 + (n 2))) (g 0) (n 4))) (200 + (n 2)) (sha (n 4) (g 0))) 0 = g 0 := by rw [va_up_ne _ _ (by omega), va_up_ne _ _ (by omega), va_up_ne _ _ (by decide), va_up_ne _ _ (by decide)]
        have qg_1 : (va_up (va_up (va_up (va_up g 7 (upd (g 7) (n 2) (crc (n 4) (g 0)))) 8 (upd (g 8) (n 2) (nI a))) (100 + (n 2)) (cpyTo (g (100 + (n 2))) (g 0) (n 4))) (200 + (n 2)) (sha (n 4) (g 0))) 1 = g 1 := by rw [va_up_ne _ _ (by omega), va_up_ne _ _ (by omega), va_up_ne _ _ (by decide), va_up_ne _ _ (by decide)]
        have qg_2 : (va_up (va_up (va_up (va_up g 7 (upd (g 7) (n 2) (crc (n 4) (g 0)))) 8 (upd (g 8) (n 2) (nI a))) (100 + (n 2)) (cpyTo (g (100 + (n 2))) (g 0) (n 4))) (200 + (n 2)) (sha (n 4) (g 0))) 2 = g 2 := by rw [va_up_ne _ _ (by omega), va_up_ne _ _ (by omega), va_up_ne _ _ (by decide), va_up_ne _ _ (by decide)]
        have qg_3 : (va_up (va_up (va_up (va_up g 7 (upd (g 7) (n 2) (crc (n 4) (g 0)))) 8 (upd (g 8) (n 2) (nI a))) (100 + (n 2)) (cpyTo (g (100 + (n 2))) (g 0) (n 4))) (200 + (n 2)) (sha (n 4) (g 0))) 3 = g 3 := by rw [va_up_ne _ _ (by omega), va_up_ne _ _ (by omega), va_up_ne _ _ (by decide), va_up_ne _ _ (by decide)]
        have qg_4 : (va_up (va_up (va_up (va_up g 7 (upd (g 7) (n 2) (crc (n 4) (g 0)))) 8 (upd (g 8) (n 2) (nI a))) (100 + (n 2)) (cpyTo (g (100 + (n 2))) (g 0) (n 4))) (200 + (n 2)) (sha (n 4) (g 0))) 4 = g 4 := by rw [va_up_ne _ _ (by omega), va_up_ne _ _ (by omega), va_up_ne _ _ (by decide), va_up_ne _ _ (by decide)]
        have qg_5 : (va_up (va_up (va_up (va_up g 7 (upd (g 7) (n 2) (crc (n 4) (g 0)))) 8 (upd (g 8) (n 2) (nI a))) (100 + (n 2)) (cpyTo (g (100 + (n 2))) (g 0) (n 4))) (200 + (n 2)) (sha (n 4) (g 0))) 5 = g 5 := by rw [va_up_ne _ _ (by omega), va_up_ne _ _ (by omega), va_up_ne _ _ (by decide), va_up_ne _ _ (by decide)]
        have qg_6 : (va_up (va_up (va_up (va_up g 7 (upd (g 7) (n 2) (crc (n 4) (g 0)))) 8 (upd (g 8) (n 2) (nI a))) (100 + (n 2)) (cpyTo (g (100 + (n 2))) (g 0) (n 4))) (200 + (n 2)) (sha (n 4) (g 0))) 6 = g 6 := by rw [va_up_ne _ _ (by omega), va_up_ne _ _ (by omega), va_up_ne _ _ (by decide), va_up_ne _ _ (by decide)]
        have qg_7 : (va_up (va_up (va_up (va_up g 7 (upd (g 7) (n 2) (crc (n 4) (g 0)))) 8 (upd (g 8) (n 2) (nI a))) (100 + (n 2)) (cpyTo (g (100 + (n 2))) (g 0) (n 4))) (200 + (n 2)) (sha (n 4) (g 0))) 7 = upd (g 7) (n 2) (crc (n 4) (g 0)) := by rw [va_up_ne _ _ (by omega), va_up_ne _ _ (by omega), va_up_ne _ _ (by decide), va_up_self]
        have qg_8 : (va_up (va_up (va_up (va_up g 7 (upd (g 7) (n 2) (crc (n 4) (g 0)))) 8 (upd (g 8) (n 2) (nI a))) (100 + (n 2)) (cpyTo (g (100 + (n 2))) (g 0) (n 4))) (200 + (n 2)) (sha (n 4) (g 0))) 8 = upd (g 8) (n 2) (nI a) := by rw [va_up_ne _ _ (by omega), va_up_ne _ _ (by omega), va_up_self]
        have qg_9 : (va_up (va_up (va_up (va_up g 7 (upd (g 7) (n 2) (crc (n 4) (g 0)))) 8 (upd (g 8) (n 2) (nI a))) (100 + (n 2)) (cpyTo (g (100 + (n 2))) (g 0) (n 4))) (200 + (n 2)) (sha (n 4) (g 0))) 9 = g 9 := by rw [va_up_ne _ _ (by omega), va_up_ne _ _ (by omega), va_up_ne _ _ (by decide), va_up_ne _ _ (by decide)]
        have qg_10 : (va_up (va_up (va_up (va_up g 7 (upd (g 7) (n 2) (crc (n 4) (g 0)))) 8 (upd (g 8) (n 2) (nI a))) (100 + (n 2)) (cpyTo (g (100 + (n 2))) (g 0) (n 4))) (200 + (n 2)) (sha (n 4) (g 0))) 10 = g 10 := by rw [va_up_ne _ _ (by omega), va_up_ne _ _ (by omega), va_up_ne _ _ (by decide), va_up_ne _ _ (by decide)]
        have qg_11 : (va_up (va_up (va_up (va_up g 7 (upd (g 7) (n 2) (crc (n 4) (g 0)))) 8 (upd (g 8) (n 2) (nI a))) (100 + (n 2)) (cpyTo (g (100 + (n 2))) (g 0) (n 4))) (200 + (n 2)) (sha (n 4) (g 0))) 11 = g 11 := by rw [va_up_ne _ _ (by omega), va_up_ne _ _ (by omega), va_up_ne _ _ (by decide), va_up_ne _ _ (by decide)]
        have qg_12 : (va_up (va_up (va_up (va_up g 7 (upd (g 7) (n 2) (crc (n 4) (g 0)))) 8 (upd (g 8) (n 2) (nI a))) (100 + (n 2)) (cpyTo (g (100 + (n 2))) (g 0) (n 4))) (200 + (n 2)) (sha (n 4) (g 0))) 12 = g 12 := by rw [va_up_ne _ _ (by omega), va_up_ne _ _ (by omega), va_up_ne _ _ (by decide), va_up_ne _ _ (by decide)]
        have qg_13 : (va_up (va_up (va_up (va_up g 7 (upd (g 7) (n 2) (crc (n 4) (g 0)))) 8 (upd (g 8) (n 2) (nI a))) (100 + (n 2)) (cpyTo (g (100 + (n 2))) (g 0) (n 4))) (200 + (n 2)) (sha (n 4) (g 0))) 13 = g 13 := by rw [va_up_ne _ _ (by omega), va_up_ne _ _ (by omega), va_up_ne _ _ (by decide), va_up_ne _ _ (by decide)]
        have qz_0 : (va_up (va_up z 0 e1_9) 1 w1_8) 0 = e1_9 := by rw [va_up_ne _ _ (by decide), va_up_self]
        have qz_1 : (va_up (va_up z 0 e1_9) 1 w1_8) 1 = w1_8 := by rw [va_up_self]
        have qz_2 : (va_up (va_up z 0 e1_9) 1 w1_8) 2 = z 2 := by rw [va_up_ne _ _ (by decide), va_up_ne _ _ (by decide)]
        have qz_3 : (va_up (va_up z 0 e1_9) 1 w1_8) 3 = z 3 := by rw [va_up_ne _ _ (by decide), va_up_ne _ _ (by decide)]
        have qz_4 : (va_up (va_up z 0 e1_9) 1 w1_8) 4 = z 4 := by rw [va_up_ne _ _ (by decide), va_up_ne _ _ (by decide)]
        have hRz : RepX ca ad (va_up (va_up (va_up n 2 ((n 2) + 1)) 4 0) (10 + (n 2)) (n 4)) (va_up (va_up (va_up (va_up g 7 (upd (g 7) (n 2) (crc (n 4) (g 0)))) 8 (upd (g 8) (n 2) (nI a))) (100 + (n 2)) (cpyTo (g (100 + (n 2))) (g 0) (n 4))) (200 + (n 2)) (sha (n 4) (g 0))) (va_up (va_up z 0 e1_9) 1 w1_8) zn tb f_19 := ⟨(by rw [qn_0, qn_1, qn_2, qn_3, qg_13]; exact c_0),
              c_1,
              (by rw [qz_0]; exact c_2),
              (by rw [qz_1]; exact c_3),
              c_4,
              c_5,
              (by rw [qn_4]; exact c_6),
              (by rw [qg_0]; exact c_7),
              (by rw [qg_1]; exact c_8),
              c_9,
              (by rw [qn_5]; exact c_90),
              c_91,
              (by rw [qz_2]; exact c_92),
              (by rw [qz_3]; exact c_93),
              c_94,
              (by rw [qz_4]; exact c_95),
              (by rw [qg_4]; exact c_96),
              (by rw [qg_5]; exact c_97),
              (by rw [qg_6]; exact c_98),
              c_99,
              (by rw [qg_2]; exact c_300),
              (by rw [qg_3]; exact c_301),
              (fun i9 hi9 => by
              by_cases ei : i9 = n 2
              · rw [ei]; simp only [qg_7, qg_8, qg_9, qg_10, qg_11, qg_12, pk_us]; exact c_10_4_n_2
              · simp only [qg_7, qg_8, qg_9, qg_10, qg_11, qg_12, pk_un ei]; rw [ef_19, va_up_ne _ _ (by omega), ef_18, va_up_ne _ _ (by omega), ef_17, va_up_ne _ _ (by omega), ef_13, va_up_ne _ _ (by omega), ef_6, va_up_ne _ _ (by omega), va_up_ne _ _ (by omega), ef_5, va_up_ne _ _ (by omega), ef_3, va_up_ne _ _ (by omega), va_up_ne _ _ (by omega)]; exact F_kf i9 hi9),
              (fun i9 hi9 => by
              by_cases ei : i9 = n 2
              · rw [ei, va_up_self]; exact c_11_4_n_2
              · rw [va_up_ne _ _ (by omega), va_up_ne _ _ (by omega), va_up_ne _ _ (by omega)]; rw [ef_19, va_up_ne _ _ (by omega), ef_18, va_up_ne _ _ (by omega), ef_17, va_up_ne _ _ (by omega), ef_13, va_up_ne _ _ (by omega), ef_6, va_up_ne _ _ (by omega), va_up_ne _ _ (by omega), ef_5, va_up_ne _ _ (by omega), ef_3, va_up_ne _ _ (by omega), va_up_ne _ _ (by omega)]; exact F_oc i9 hi9),
              (fun i9 hi9 => by
              by_cases ei : i9 = n 2
              · rw [ei, va_up_ne _ _ (by omega), va_up_self]; exact c_12_4_n_2
              · rw [va_up_ne _ _ (by omega), va_up_ne _ _ (by omega), va_up_ne _ _ (by omega), va_up_ne _ _ (by omega)]; rw [ef_19, va_up_ne _ _ (by omega), ef_18, va_up_ne _ _ (by omega), ef_17, va_up_ne _ _ (by omega), ef_13, va_up_ne _ _ (by omega), ef_6, va_up_ne _ _ (by omega), va_up_ne _ _ (by omega), ef_5, va_up_ne _ _ (by omega), ef_3, va_up_ne _ _ (by omega), va_up_ne _ _ (by omega)]; exact F_va i9 hi9),
              (fun i9 hi9 => by
              by_cases ei : i9 = n 2
              · rw [ei, va_up_self]; exact c_13_4_n_2
              · rw [va_up_ne _ _ (by omega), va_up_ne _ _ (by omega), va_up_ne _ _ (by omega), va_up_ne _ _ (by omega)]; rw [ef_19, va_up_ne _ _ (by omega), ef_18, va_up_ne _ _ (by omega), ef_17, va_up_ne _ _ (by omega), ef_13, va_up_ne _ _ (by omega), ef_6, va_up_ne _ _ (by omega), va_up_ne _ _ (by omega), ef_5, va_up_ne _ _ (by omega), ef_3, va_up_ne _ _ (by omega), va_up_ne _ _ (by omega)]; exact F_lw i9 hi9),
              (fun i9 hi9 => by rw [va_up_ne _ _ (by omega), va_up_ne _ _ (by omega), va_up_ne _ _ (by omega), va_up_ne _ _ (by omega)]; rw [ef_19, va_up_ne _ _ (by omega), ef_18, va_up_ne _ _ (by omega), ef_17, va_up_ne _ _ (by omega), ef_13, va_up_ne _ _ (by omega), ef_6, va_up_ne _ _ (by omega), va_up_ne _ _ (by omega), ef_5, va_up_ne _ _ (by omega), ef_3, va_up_ne _ _ (by omega), va_up_ne _ _ (by omega)]; exact F_M i9 hi9), hzn, hT⟩
        exact x_iret hx hb hr hlocks hw ⟨rfl, va_up (va_up z 0 e1_9) 1 w1_8, zn, hRz, (fun y hy => by rw [ef_19, va_up_ne _ _ (by omega), ef_18, va_up_ne _ _ (by omega), ef_17, va_up_ne _ _ (by omega), ef_13, va_up_ne _ _ (by omega), ef_6, va_up_ne _ _ (by omega), va_up_ne _ _ (by omega), ef_5, va_up_ne _ _ (by omega), ef_3, va_up_ne _ _ (by omega), va_up_ne _ _ (by omega)])⟩ dX5_file_131
      · omega
