/-! ===== words for the class's own methods ===== -/
def grow (g : Nat → Nat → Int32) (M : Nat → Nat → Int32) : Nat → Nat → Int32 := fun a => if 1000 ≤ a ∧ a < 1200 then M (a - 1000) else g a
theorem grow_ne (g M : Nat → Nat → Int32) {a : Nat} (h : a < 1000 ∨ 1200 ≤ a) : grow g M a = g a := if_neg (by omega)
theorem grow_at (g M : Nat → Nat → Int32) {i : Nat} (h : i < 200) : grow g M (1000 + i) = M i := by
  unfold grow
  rw [if_pos (by omega), Nat.add_sub_cancel_left]
/-- file i's bytes have all DIGESTS of file j -/
def fitsX (n : Nat → Nat) (g : Nat → Nat → Int32) (i j : Nat) : Prop := (¬ g 8 j &&& nI 2 = 0 → crc (n (10 + i)) (g (100 + i)) = g 7 j) ∧ (¬ g 8 j &&& nI 1 = 0 → ∀ k, k < 8 → g (200 + j) k = sha (n (10 + i)) (g (100 + i)) k)

abbrev rmX5_schedule : Room := { frames := 1, cells := 0, slots := 0, locals := 22 }

set_option maxHeartbeats 4000000 in
set_option maxRecDepth 100000 in
theorem k_X5_schedule_nofile (l : Launch) (D : va_G) (ca : Nat → ClassId) (N : Nat) (ad : Nat → Nat) (B tR tK : Nat) (f : Nat → va_E) (dd : xD N ad B) (hN : 302 ≤ N) (n : Nat → Nat) (g : Nat → Nat → Int32) (z : Nat → Nat → Int32) (zn : Nat) (tb : Nat → Int32) (hR : RepX ca ad n g z zn tb f) (x : Int32) (y : Int32) (w : Int32) (ho : x < 0 ∨ nI (n 2) ≤ x) : xMi l yX5_schedule wsX5_schedule rmX5_schedule [.ref (ad 0), .int x, .int y, .int w] D ca N ad B tR tK f (fun r u => (-1) = r ∧ ∃ (z1 : Nat → Nat → Int32) (zn1 : Nat), RepX ca ad n g z1 zn1 tb u ∧ ∀ y, 302 ≤ y → u y = f y) := by
  refine x_open (cc := cX5_schedule) (maxL := 4) (ret := (some .int)) (by decide) rfl (Nat.le_of_ble_eq_true rfl) ?_
  intro p e s m below meth c ls hx hb hml hown hts hr hlocks hnm hB hK hE hw hl
  have hown : s.vm.findClass RX5 = some m.cls := hown
  have hl : lv_has ls 4 [(0, .ref (ad 0)), (1, .int x), (2, .int y), (3, .int w)] := hl
  obtain ⟨c_0, c_1, c_2, c_3, c_4, c_5, c_6, c_7, c_8, c_9, c_90, c_91, c_92, c_93, c_94, c_95, c_96, c_97, c_98, c_99, c_300, c_301, F_kf, F_oc, F_va, F_lw, F_M, hzn, hT⟩ := hR
  have b_0 := c_0
  have b_1 := c_1
  have b_2 := c_2
  have b_3 := c_3
  have b_4 := c_4
  have b_5 := c_5
  have b_6 := c_6
  have b_7 := c_7
  have b_8 := c_8
  have b_9 := c_9
  have b_90 := c_90
  have b_91 := c_91
  have b_92 := c_92
  have b_93 := c_93
  have b_94 := c_94
  have b_95 := c_95
  have b_96 := c_96
  have b_97 := c_97
  have b_98 := c_98
  have b_99 := c_99
  have b_300 := c_300
  have b_301 := c_301
  refine lv_aload_n hx hb dX5_schedule_0 rfl (lv_at hl 0 rfl) ?_
  refine lv_iload_n hx hb dX5_schedule_1 rfl (lv_at hl 1 rfl) ?_
  have hRk : RepX ca ad n g z zn tb f := ⟨c_0,
        c_1,
        c_2,
        c_3,
        c_4,
        c_5,
        c_6,
        c_7,
        c_8,
        c_9,
        c_90,
        c_91,
        c_92,
        c_93,
        c_94,
        c_95,
        c_96,
        c_97,
        c_98,
        c_99,
        c_300,
        c_301,
        (fun i9 hi9 => by exact F_kf i9 hi9),
        (fun i9 hi9 => by exact F_oc i9 hi9),
        (fun i9 hi9 => by exact F_va i9 hi9),
        (fun i9 hi9 => by exact F_lw i9 hi9),
        (fun i9 hi9 => by exact F_M i9 hi9), hzn, hT⟩
  have hfr : ∀ y, 302 ≤ y → f y = f y := (fun _ _ => rfl)
  refine x_Vi (q := 0) (As := [.int x]) (rest := []) ⟨hx, hb, hml, hown, hts⟩ (k_X5_isFile_no l D ca N ad B tR tK f dd hN n g z zn tb hRk x ho) (cwV 1 hts gX5_schedule_X5_isFile rfl rfl rfl (by decide +kernel) ⟨Nat.le_of_ble_eq_true rfl, Nat.le_of_ble_eq_true rfl⟩) hK hE hB hw (by omega) c_0 rfl rfl rfl rfl hl.1 (Nat.le_of_ble_eq_true rfl) ⟨Nat.zero_le _, Nat.zero_le _⟩ dX5_schedule_2 (fun r_2 f_1 H locs hp hw => ?_)
  obtain ⟨er, hp⟩ := hp
  rw [← er]
  rw [← hp] at hw
  refine lv_if_ne (tgt := 10) hx hb dX5_schedule_5 (by decide) (fun h => False.elim (h (by decide))) (fun _ => ?_)
  refine lv_iconst (v := (-1)) hx hb dX5_schedule_8 (by decide) ?_
  have hRz : RepX ca ad n g z zn tb f := ⟨c_0,
        c_1,
        c_2,
        c_3,
        c_4,
        c_5,
        c_6,
        c_7,
        c_8,
        c_9,
        c_90,
        c_91,
        c_92,
        c_93,
        c_94,
        c_95,
        c_96,
        c_97,
        c_98,
        c_99,
        c_300,
        c_301,
        (fun i9 hi9 => by exact F_kf i9 hi9),
        (fun i9 hi9 => by exact F_oc i9 hi9),
        (fun i9 hi9 => by exact F_va i9 hi9),
        (fun i9 hi9 => by exact F_lw i9 hi9),
        (fun i9 hi9 => by exact F_M i9 hi9), hzn, hT⟩
  exact x_iret hx hb hr hlocks hw ⟨rfl, z, zn, hRz, (fun _ _ => rfl)⟩ dX5_schedule_9

set_option maxHeartbeats 4000000 in
set_option maxRecDepth 100000 in
theorem k_X5_schedule_day (l : Launch) (D : va_G) (ca : Nat → ClassId) (N : Nat) (ad : Nat → Nat) (B tR tK : Nat) (f : Nat → va_E) (dd : xD N ad B) (hN : 302 ≤ N) (n : Nat → Nat) (g : Nat → Nat → Int32) (z : Nat → Nat → Int32) (zn : Nat) (tb : Nat → Int32) (hR : RepX ca ad n g z zn tb f) (i : Nat) (y : Int32) (w : Int32) (h2 : n 2 ≤ 20) (hi : i < n 2) (ho : y < 0 ∨ nI 1000000 < y) : xMi l yX5_schedule wsX5_schedule rmX5_schedule [.ref (ad 0), .int (nI i), .int y, .int w] D ca N ad B tR tK f (fun r u => (-2) = r ∧ ∃ (z1 : Nat → Nat → Int32) (zn1 : Nat), RepX ca ad n g z1 zn1 tb u ∧ ∀ y, 302 ≤ y → u y = f y) := by
  refine x_open (cc := cX5_schedule) (maxL := 4) (ret := (some .int)) (by decide) rfl (Nat.le_of_ble_eq_true rfl) ?_
  intro p e s m below meth c ls hx hb hml hown hts hr hlocks hnm hB hK hE hw hl
  have hown : s.vm.findClass RX5 = some m.cls := hown
  have hl : lv_has ls 4 [(0, .ref (ad 0)), (1, .int (nI i)), (2, .int y), (3, .int w)] := hl
  obtain ⟨c_0, c_1, c_2, c_3, c_4, c_5, c_6, c_7, c_8, c_9, c_90, c_91, c_92, c_93, c_94, c_95, c_96, c_97, c_98, c_99, c_300, c_301, F_kf, F_oc, F_va, F_lw, F_M, hzn, hT⟩ := hR
  have b_0 := c_0
  have b_1 := c_1
  have b_2 := c_2
  have b_3 := c_3
  have b_4 := c_4
  have b_5 := c_5
  have b_6 := c_6
  have b_7 := c_7
  have b_8 := c_8
  have b_9 := c_9
  have b_90 := c_90
  have b_91 := c_91
  have b_92 := c_92
  have b_93 := c_93
  have b_94 := c_94
  have b_95 := c_95
  have b_96 := c_96
  have b_97 := c_97
  have b_98 := c_98
  have b_99 := c_99
  have b_300 := c_300
  have b_301 := c_301
  refine lv_aload_n hx hb dX5_schedule_0 rfl (lv_at hl 0 rfl) ?_
  refine lv_iload_n hx hb dX5_schedule_1 rfl (lv_at hl 1 rfl) ?_
  have hRk : RepX ca ad n g z zn tb f := ⟨c_0,
        c_1,
        c_2,
        c_3,
        c_4,
        c_5,
        c_6,
        c_7,
        c_8,
        c_9,
        c_90,
        c_91,
        c_92,
        c_93,
        c_94,
        c_95,
        c_96,
        c_97,
        c_98,
        c_99,
        c_300,
        c_301,
        (fun i9 hi9 => by exact F_kf i9 hi9),
        (fun i9 hi9 => by exact F_oc i9 hi9),
        (fun i9 hi9 => by exact F_va i9 hi9),
        (fun i9 hi9 => by exact F_lw i9 hi9),
        (fun i9 hi9 => by exact F_M i9 hi9), hzn, hT⟩
  have hfr : ∀ y, 302 ≤ y → f y = f y := (fun _ _ => rfl)
  refine x_Vi (q := 0) (As := [.int (nI i)]) (rest := []) ⟨hx, hb, hml, hown, hts⟩ (k_X5_isFile_yes l D ca N ad B tR tK f dd hN n g z zn tb hRk i (by omega) (by omega)) (cwV 1 hts gX5_schedule_X5_isFile rfl rfl rfl (by decide +kernel) ⟨Nat.le_of_ble_eq_true rfl, Nat.le_of_ble_eq_true rfl⟩) hK hE hB hw (by omega) c_0 rfl rfl rfl rfl hl.1 (Nat.le_of_ble_eq_true rfl) ⟨Nat.zero_le _, Nat.zero_le _⟩ dX5_schedule_2 (fun r_2 f_1 H locs hp hw => ?_)
  obtain ⟨er, hp⟩ := hp
  rw [← er]
  rw [← hp] at hw
  refine lv_if_ne (tgt := 10) hx hb dX5_schedule_5 (by decide) (fun _ => ?_) (fun h => absurd h (by decide))
  refine lv_iload_n hx hb dX5_schedule_10 rfl (lv_at hl 2 rfl) ?_
  refine x_Si (As := [.int y]) (rest := []) ⟨hx, hb, hml, hown, hts⟩ (k_X5_isDay_no l D ca N ad B tR tK f dd y   ho) (va_cwS 1 hts gX5_schedule_X5_isDay rfl rfl rfl (by decide +kernel) ⟨Nat.le_of_ble_eq_true rfl, Nat.le_of_ble_eq_true rfl⟩) hK hE hB hw rfl rfl hl.1 (Nat.le_of_ble_eq_true rfl) ⟨Nat.zero_le _, Nat.zero_le _⟩ dX5_schedule_11 (fun r_4 f_3 H locs hp hw => ?_)
  obtain ⟨er, eu⟩ := hp
  rw [← er]
  rw [← eu] at hw
  refine lv_if_eq (tgt := 29) hx hb dX5_schedule_14 (by decide) (fun _ => ?_) (fun h => False.elim (h (by decide)))
  refine lv_bipush (v := (-2)) hx hb dX5_schedule_29 (by decide) ?_
  have hRz : RepX ca ad n g z zn tb f := ⟨c_0,
        c_1,
        c_2,
        c_3,
        c_4,
        c_5,
        c_6,
        c_7,
        c_8,
        c_9,
        c_90,
        c_91,
        c_92,
        c_93,
        c_94,
        c_95,
        c_96,
        c_97,
        c_98,
        c_99,
        c_300,
        c_301,
        (fun i9 hi9 => by exact F_kf i9 hi9),
        (fun i9 hi9 => by exact F_oc i9 hi9),
        (fun i9 hi9 => by exact F_va i9 hi9),
        (fun i9 hi9 => by exact F_lw i9 hi9),
        (fun i9 hi9 => by exact F_M i9 hi9), hzn, hT⟩
  exact x_iret hx hb hr hlocks hw ⟨rfl, z, zn, hRz, (fun _ _ => rfl)⟩ dX5_schedule_31

set_option maxHeartbeats 4000000 in
set_option maxRecDepth 100000 in
theorem k_X5_schedule_span (l : Launch) (D : va_G) (ca : Nat → ClassId) (N : Nat) (ad : Nat → Nat) (B tR tK : Nat) (f : Nat → va_E) (dd : xD N ad B) (hN : 302 ≤ N) (n : Nat → Nat) (g : Nat → Nat → Int32) (z : Nat → Nat → Int32) (zn : Nat) (tb : Nat → Int32) (hR : RepX ca ad n g z zn tb f) (i : Nat) (j : Nat) (w : Int32) (h2 : n 2 ≤ 20) (hi : i < n 2) (hj : j ≤ 1000000) (ho : w < nI 1 ∨ nI 1000 < w) : xMi l yX5_schedule wsX5_schedule rmX5_schedule [.ref (ad 0), .int (nI i), .int (nI j), .int w] D ca N ad B tR tK f (fun r u => (-2) = r ∧ ∃ (z1 : Nat → Nat → Int32) (zn1 : Nat), RepX ca ad n g z1 zn1 tb u ∧ ∀ y, 302 ≤ y → u y = f y) := by
  refine x_open (cc := cX5_schedule) (maxL := 4) (ret := (some .int)) (by decide) rfl (Nat.le_of_ble_eq_true rfl) ?_
  intro p e s m below meth c ls hx hb hml hown hts hr hlocks hnm hB hK hE hw hl
  have hown : s.vm.findClass RX5 = some m.cls := hown
  have hl : lv_has ls 4 [(0, .ref (ad 0)), (1, .int (nI i)), (2, .int (nI j)), (3, .int w)] := hl
  obtain ⟨c_0, c_1, c_2, c_3, c_4, c_5, c_6, c_7, c_8, c_9, c_90, c_91, c_92, c_93, c_94, c_95, c_96, c_97, c_98, c_99, c_300, c_301, F_kf, F_oc, F_va, F_lw, F_M, hzn, hT⟩ := hR
  have b_0 := c_0
  have b_1 := c_1
  have b_2 := c_2
  have b_3 := c_3
  have b_4 := c_4
  have b_5 := c_5
  have b_6 := c_6
  have b_7 := c_7
  have b_8 := c_8
  have b_9 := c_9
  have b_90 := c_90
  have b_91 := c_91
  have b_92 := c_92
  have b_93 := c_93
  have b_94 := c_94
  have b_95 := c_95
  have b_96 := c_96
  have b_97 := c_97
  have b_98 := c_98
  have b_99 := c_99
  have b_300 := c_300
  have b_301 := c_301
  refine lv_aload_n hx hb dX5_schedule_0 rfl (lv_at hl 0 rfl) ?_
  refine lv_iload_n hx hb dX5_schedule_1 rfl (lv_at hl 1 rfl) ?_
  have hRk : RepX ca ad n g z zn tb f := ⟨c_0,
        c_1,
        c_2,
        c_3,
        c_4,
        c_5,
        c_6,
        c_7,
        c_8,
        c_9,
        c_90,
        c_91,
        c_92,
        c_93,
        c_94,
        c_95,
        c_96,
        c_97,
        c_98,
        c_99,
        c_300,
        c_301,
        (fun i9 hi9 => by exact F_kf i9 hi9),
        (fun i9 hi9 => by exact F_oc i9 hi9),
        (fun i9 hi9 => by exact F_va i9 hi9),
        (fun i9 hi9 => by exact F_lw i9 hi9),
        (fun i9 hi9 => by exact F_M i9 hi9), hzn, hT⟩
  have hfr : ∀ y, 302 ≤ y → f y = f y := (fun _ _ => rfl)
  refine x_Vi (q := 0) (As := [.int (nI i)]) (rest := []) ⟨hx, hb, hml, hown, hts⟩ (k_X5_isFile_yes l D ca N ad B tR tK f dd hN n g z zn tb hRk i (by omega) (by omega)) (cwV 1 hts gX5_schedule_X5_isFile rfl rfl rfl (by decide +kernel) ⟨Nat.le_of_ble_eq_true rfl, Nat.le_of_ble_eq_true rfl⟩) hK hE hB hw (by omega) c_0 rfl rfl rfl rfl hl.1 (Nat.le_of_ble_eq_true rfl) ⟨Nat.zero_le _, Nat.zero_le _⟩ dX5_schedule_2 (fun r_2 f_1 H locs hp hw => ?_)
  obtain ⟨er, hp⟩ := hp
  rw [← er]
  rw [← hp] at hw
  refine lv_if_ne (tgt := 10) hx hb dX5_schedule_5 (by decide) (fun _ => ?_) (fun h => absurd h (by decide))
  refine lv_iload_n hx hb dX5_schedule_10 rfl (lv_at hl 2 rfl) ?_
  refine x_Si (As := [.int (nI j)]) (rest := []) ⟨hx, hb, hml, hown, hts⟩ (k_X5_isDay_yes l D ca N ad B tR tK f dd j   (by omega)) (va_cwS 1 hts gX5_schedule_X5_isDay rfl rfl rfl (by decide +kernel) ⟨Nat.le_of_ble_eq_true rfl, Nat.le_of_ble_eq_true rfl⟩) hK hE hB hw rfl rfl hl.1 (Nat.le_of_ble_eq_true rfl) ⟨Nat.zero_le _, Nat.zero_le _⟩ dX5_schedule_11 (fun r_4 f_3 H locs hp hw => ?_)
  obtain ⟨er, eu⟩ := hp
  rw [← er]
  rw [← eu] at hw
  refine lv_if_eq (tgt := 29) hx hb dX5_schedule_14 (by decide) (fun h => absurd h (by decide)) (fun _ => ?_)
  refine lv_iload_n hx hb dX5_schedule_17 rfl (lv_at hl 3 rfl) ?_
  refine lv_iconst (v := nI 1) hx hb dX5_schedule_18 (by decide) ?_
  refine lv_icmp_lt (tgt := 29) hx hb dX5_schedule_19 (by decide) (fun hc_19 => ?_) (fun hc_19 => ?_)
  · refine lv_bipush (v := (-2)) hx hb dX5_schedule_29 (by decide) ?_
    have hRz : RepX ca ad n g z zn tb f := ⟨c_0,
          c_1,
          c_2,
          c_3,
          c_4,
          c_5,
          c_6,
          c_7,
          c_8,
          c_9,
          c_90,
          c_91,
          c_92,
          c_93,
          c_94,
          c_95,
          c_96,
          c_97,
          c_98,
          c_99,
          c_300,
          c_301,
          (fun i9 hi9 => by exact F_kf i9 hi9),
          (fun i9 hi9 => by exact F_oc i9 hi9),
          (fun i9 hi9 => by exact F_va i9 hi9),
          (fun i9 hi9 => by exact F_lw i9 hi9),
          (fun i9 hi9 => by exact F_M i9 hi9), hzn, hT⟩
    exact x_iret hx hb hr hlocks hw ⟨rfl, z, zn, hRz, (fun _ _ => rfl)⟩ dX5_schedule_31
  · refine lv_iload_n hx hb dX5_schedule_22 rfl (lv_at hl 3 rfl) ?_
    refine lv_sipush (v := nI 1000) hx hb dX5_schedule_23 (by decide) ?_
    refine lv_icmp_le (tgt := 32) hx hb dX5_schedule_26 (by decide) (fun hc_26 => ?_) (fun hc_26 => ?_)
    · exact absurd ho (fun z => z.elim hc_19 (fun q => absurd hc_26 (Int32.not_le.mpr q)))
    · refine lv_bipush (v := (-2)) hx hb dX5_schedule_29 (by decide) ?_
      have hRz : RepX ca ad n g z zn tb f := ⟨c_0,
            c_1,
            c_2,
            c_3,
            c_4,
            c_5,
            c_6,
            c_7,
            c_8,
            c_9,
            c_90,
            c_91,
            c_92,
            c_93,
            c_94,
            c_95,
            c_96,
            c_97,
            c_98,
            c_99,
            c_300,
            c_301,
            (fun i9 hi9 => by exact F_kf i9 hi9),
            (fun i9 hi9 => by exact F_oc i9 hi9),
            (fun i9 hi9 => by exact F_va i9 hi9),
            (fun i9 hi9 => by exact F_lw i9 hi9),
            (fun i9 hi9 => by exact F_M i9 hi9), hzn, hT⟩
      exact x_iret hx hb hr hlocks hw ⟨rfl, z, zn, hRz, (fun _ _ => rfl)⟩ dX5_schedule_31

set_option maxHeartbeats 4000000 in
set_option maxRecDepth 100000 in
theorem k_X5_schedule_in (l : Launch) (D : va_G) (ca : Nat → ClassId) (N : Nat) (ad : Nat → Nat) (B tR tK : Nat) (f : Nat → va_E) (dd : xD N ad B) (hN : 302 ≤ N) (n : Nat → Nat) (g : Nat → Nat → Int32) (z : Nat → Nat → Int32) (zn : Nat) (tb : Nat → Int32) (hR : RepX ca ad n g z zn tb f) (i : Nat) (j : Nat) (k : Nat) (h2 : n 2 ≤ 20) (hi : i < n 2) (hj : j ≤ 1000000) (hk1 : 1 ≤ k) (hk2 : k ≤ 1000) : xMi l yX5_schedule wsX5_schedule rmX5_schedule [.ref (ad 0), .int (nI i), .int (nI j), .int (nI k)] D ca N ad B tR tK f (fun r u => nI 1 = r ∧ ∃ (z1 : Nat → Nat → Int32) (zn1 : Nat), RepX ca ad n (va_up (va_up g 10 (upd (g 10) i (nI j))) 11 (upd (g 11) i (nI k))) z1 zn1 tb u ∧ ∀ y, 302 ≤ y → u y = f y) := by
  refine x_open (cc := cX5_schedule) (maxL := 4) (ret := (some .int)) (by decide) rfl (Nat.le_of_ble_eq_true rfl) ?_
  intro p e s m below meth c ls hx hb hml hown hts hr hlocks hnm hB hK hE hw hl
  have hown : s.vm.findClass RX5 = some m.cls := hown
  have hl : lv_has ls 4 [(0, .ref (ad 0)), (1, .int (nI i)), (2, .int (nI j)), (3, .int (nI k))] := hl
  obtain ⟨c_0, c_1, c_2, c_3, c_4, c_5, c_6, c_7, c_8, c_9, c_90, c_91, c_92, c_93, c_94, c_95, c_96, c_97, c_98, c_99, c_300, c_301, F_kf, F_oc, F_va, F_lw, F_M, hzn, hT⟩ := hR
  have hin_6 : ∀ w ∈ u_ws RX5 TX5 13, w ∈ wsX5_schedule := by decide +kernel
  have hf_49 := hts (.fieldLink RX5 49 "FixityRows" "files" "[LFixityRows$KeptFile;") (by decide +kernel)
  have b_0 := c_0
  have b_1 := c_1
  have b_2 := c_2
  have b_3 := c_3
  have b_4 := c_4
  have b_5 := c_5
  have b_6 := c_6
  have b_7 := c_7
  have b_8 := c_8
  have b_9 := c_9
  have b_90 := c_90
  have b_91 := c_91
  have b_92 := c_92
  have b_93 := c_93
  have b_94 := c_94
  have b_95 := c_95
  have b_96 := c_96
  have b_97 := c_97
  have b_98 := c_98
  have b_99 := c_99
  have b_300 := c_300
  have b_301 := c_301
  refine lv_aload_n hx hb dX5_schedule_0 rfl (lv_at hl 0 rfl) ?_
  refine lv_iload_n hx hb dX5_schedule_1 rfl (lv_at hl 1 rfl) ?_
  have hRk : RepX ca ad n g z zn tb f := ⟨c_0,
        c_1,
        c_2,
        c_3,
        c_4,
        c_5,
        c_6,
        c_7,
        c_8,
        c_9,
        c_90,
        c_91,
        c_92,
        c_93,
        c_94,
        c_95,
        c_96,
        c_97,
        c_98,
        c_99,
        c_300,
        c_301,
        (fun i9 hi9 => by exact F_kf i9 hi9),
        (fun i9 hi9 => by exact F_oc i9 hi9),
        (fun i9 hi9 => by exact F_va i9 hi9),
        (fun i9 hi9 => by exact F_lw i9 hi9),
        (fun i9 hi9 => by exact F_M i9 hi9), hzn, hT⟩
  have hfr : ∀ y, 302 ≤ y → f y = f y := (fun _ _ => rfl)
  refine x_Vi (q := 0) (As := [.int (nI i)]) (rest := []) ⟨hx, hb, hml, hown, hts⟩ (k_X5_isFile_yes l D ca N ad B tR tK f dd hN n g z zn tb hRk i (by omega) (by omega)) (cwV 1 hts gX5_schedule_X5_isFile rfl rfl rfl (by decide +kernel) ⟨Nat.le_of_ble_eq_true rfl, Nat.le_of_ble_eq_true rfl⟩) hK hE hB hw (by omega) c_0 rfl rfl rfl rfl hl.1 (Nat.le_of_ble_eq_true rfl) ⟨Nat.zero_le _, Nat.zero_le _⟩ dX5_schedule_2 (fun r_2 f_1 H locs hp hw => ?_)
  obtain ⟨er, hp⟩ := hp
  rw [← er]
  rw [← hp] at hw
  refine lv_if_ne (tgt := 10) hx hb dX5_schedule_5 (by decide) (fun _ => ?_) (fun h => absurd h (by decide))
  refine lv_iload_n hx hb dX5_schedule_10 rfl (lv_at hl 2 rfl) ?_
  refine x_Si (As := [.int (nI j)]) (rest := []) ⟨hx, hb, hml, hown, hts⟩ (k_X5_isDay_yes l D ca N ad B tR tK f dd j   (by omega)) (va_cwS 1 hts gX5_schedule_X5_isDay rfl rfl rfl (by decide +kernel) ⟨Nat.le_of_ble_eq_true rfl, Nat.le_of_ble_eq_true rfl⟩) hK hE hB hw rfl rfl hl.1 (Nat.le_of_ble_eq_true rfl) ⟨Nat.zero_le _, Nat.zero_le _⟩ dX5_schedule_11 (fun r_4 f_3 H locs hp hw => ?_)
  obtain ⟨er, eu⟩ := hp
  rw [← er]
  rw [← eu] at hw
  refine lv_if_eq (tgt := 29) hx hb dX5_schedule_14 (by decide) (fun h => absurd h (by decide)) (fun _ => ?_)
  refine lv_iload_n hx hb dX5_schedule_17 rfl (lv_at hl 3 rfl) ?_
  refine lv_iconst (v := nI 1) hx hb dX5_schedule_18 (by decide) ?_
  refine n_iclt (tgt := 29) hx hb dX5_schedule_19 (by decide) (by omega) (by omega) (fun hc_19 => ?_) (fun hc_19 => ?_)
  · omega
  · refine lv_iload_n hx hb dX5_schedule_22 rfl (lv_at hl 3 rfl) ?_
    refine lv_sipush (v := nI 1000) hx hb dX5_schedule_23 (by decide) ?_
    refine n_icle (tgt := 32) hx hb dX5_schedule_26 (by decide) (by omega) (by omega) (fun hc_26 => ?_) (fun hc_26 => ?_)
    · refine lv_aload_n hx hb dX5_schedule_32 rfl (lv_at hl 0 rfl) ?_
      refine x_get (ci := 6) (C := RX5) (T := TX5) (n := 13) (ref := RX5) hx hb hts hin_6 hown hK hw 0 (by omega) c_0 rfl 6 (by decide) hf_49 (fun _ h => h) rfl dX5_schedule_33 ?_
      refine lv_iload_n hx hb dX5_schedule_36 rfl (lv_at hl 1 rfl) ?_
      refine x_aald (j := i) (a := ad (10 + 4 * i)) hx hb hK hw 9 3 (by omega) c_9 rfl rfl (by omega) (by decide) rfl dX5_schedule_37 ?_
      refine lv_iload_n hx hb dX5_schedule_38 rfl (lv_at hl 2 rfl) ?_
      refine lv_iload_n hx hb dX5_schedule_39 rfl (lv_at hl 3 rfl) ?_
      have c_10_4_i : f (10 + 4 * i) = .inr (1, [.ref (ad (11 + 4 * i)), .ref (ad (13 + 4 * i)), .int (g 7 i), .int (g 8 i), .int (g 9 i), .int (g 10 i), .int (g 11 i), .int (g 12 i)]) := (F_kf i (by omega))
      refine x_Vv (q := 10 + 4 * i) (As := [.int (nI j), .int (nI k)]) (rest := []) ⟨hx, hb, hml, hown, hts⟩ (k_X0_plan l D ca N ad B tR tK f dd (10 + 4 * i) (11 + 4 * i) (13 + 4 * i) (g 7 i) (g 8 i) (g 9 i) (g 10 i) (g 11 i) (g 12 i) (nI j) (nI k) (by omega) c_10_4_i  ) (cwV 2 hts gX5_schedule_X0_plan rfl rfl rfl (by decide +kernel) ⟨Nat.le_of_ble_eq_true rfl, Nat.le_of_ble_eq_true rfl⟩) hK hE hB hw (by omega) c_10_4_i rfl rfl rfl rfl hl.1 (Nat.le_of_ble_eq_true rfl) ⟨Nat.zero_le _, Nat.zero_le _⟩ dX5_schedule_40 (fun f_5 H locs hp hw => ?_)
      have eu := hp
      have ef_5 : f_5 = va_up f (10 + 4 * i) (.inr (1, [.ref (ad (11 + 4 * i)), .ref (ad (13 + 4 * i)), .int (g 7 i), .int (g 8 i), .int (g 9 i), .int (nI j), .int (nI k), .int (g 12 i)])) := eu
      have c_10_4_i : f_5 (10 + 4 * i) = .inr (1, [.ref (ad (11 + 4 * i)), .ref (ad (13 + 4 * i)), .int (g 7 i), .int (g 8 i), .int (g 9 i), .int (nI j), .int (nI k), .int (g 12 i)]) := by rw [ef_5, va_up_self]
      refine lv_iconst (v := nI 1) hx hb dX5_schedule_43 (by decide) ?_
      have c_0 : f_5 0 = .inr (6, [.int (nI (n 0)), .ref (ad 1), .ref (ad 4), .ref (ad 6), .ref (ad 8), .int (nI (n 1)), .ref (ad 9), .int (nI (n 2)), .ref (ad 90), .ref (ad 300), .ref (ad 301), .int (nI (n 3)), .int (g 13 0)]) := by rw [ef_5, va_up_ne _ _ (by omega)]; exact c_0
      have c_1 : f_5 1 = .inr (2, [.ref (ad 2), .ref (ad 3)]) := by rw [ef_5, va_up_ne _ _ (by omega)]; exact c_1
      have c_2 : f_5 2 = ai (ca 0) 8 (z 0) := by rw [ef_5, va_up_ne _ _ (by omega)]; exact c_2
      have c_3 : f_5 3 = ai (ca 0) 64 (z 1) := by rw [ef_5, va_up_ne _ _ (by omega)]; exact c_3
      have c_4 : f_5 4 = .inr (5, [.ref (ad 5)]) := by rw [ef_5, va_up_ne _ _ (by omega)]; exact c_4
      have c_5 : f_5 5 = ai (ca 0) 256 tb := by rw [ef_5, va_up_ne _ _ (by omega)]; exact c_5
      have c_6 : f_5 6 = .inr (3, [.ref (ad 7), .int (nI (n 4))]) := by rw [ef_5, va_up_ne _ _ (by omega)]; exact c_6
      have c_7 : f_5 7 = ai (ca 0) 200 (g 0) := by rw [ef_5, va_up_ne _ _ (by omega)]; exact c_7
      have c_8 : f_5 8 = ai (ca 0) 8 (g 1) := by rw [ef_5, va_up_ne _ _ (by omega)]; exact c_8
      have c_9 : f_5 9 = aq (ca 3) 20 (fun i => some (ad (10 + 4 * i))) := by rw [ef_5, va_up_ne _ _ (by omega)]; exact c_9
      have c_90 : f_5 90 = .inr (4, [.ref (ad 91), .ref (ad 94), .ref (ad 96), .ref (ad 97), .ref (ad 98), .ref (ad 99), .int (nI (n 5))]) := by rw [ef_5, va_up_ne _ _ (by omega)]; exact c_90
      have c_91 : f_5 91 = .inr (2, [.ref (ad 92), .ref (ad 93)]) := by rw [ef_5, va_up_ne _ _ (by omega)]; exact c_91
      have c_92 : f_5 92 = ai (ca 0) 8 (z 2) := by rw [ef_5, va_up_ne _ _ (by omega)]; exact c_92
      have c_93 : f_5 93 = ai (ca 0) 64 (z 3) := by rw [ef_5, va_up_ne _ _ (by omega)]; exact c_93
      have c_94 : f_5 94 = .inr (3, [.ref (ad 95), .int (nI zn)]) := by rw [ef_5, va_up_ne _ _ (by omega)]; exact c_94
      have c_95 : f_5 95 = ai (ca 0) 200 (z 4) := by rw [ef_5, va_up_ne _ _ (by omega)]; exact c_95
      have c_96 : f_5 96 = ai (ca 0) 200 (g 4) := by rw [ef_5, va_up_ne _ _ (by omega)]; exact c_96
      have c_97 : f_5 97 = ai (ca 0) 200 (g 5) := by rw [ef_5, va_up_ne _ _ (by omega)]; exact c_97
      have c_98 : f_5 98 = ai (ca 0) 200 (g 6) := by rw [ef_5, va_up_ne _ _ (by omega)]; exact c_98
      have c_99 : f_5 99 = aq (ca 4) 200 (fun i => some (ad (100 + i))) := by rw [ef_5, va_up_ne _ _ (by omega)]; exact c_99
      have c_300 : f_5 300 = ai (ca 0) 20 (g 2) := by rw [ef_5, va_up_ne _ _ (by omega)]; exact c_300
      have c_301 : f_5 301 = ai (ca 2) 20 (g 3) := by rw [ef_5, va_up_ne _ _ (by omega)]; exact c_301
      have qg_0 : (va_up (va_up g 10 (upd (g 10) i (nI j))) 11 (upd (g 11) i (nI k))) 0 = g 0 := by rw [va_up_ne _ _ (by decide), va_up_ne _ _ (by decide)]
      have qg_1 : (va_up (va_up g 10 (upd (g 10) i (nI j))) 11 (upd (g 11) i (nI k))) 1 = g 1 := by rw [va_up_ne _ _ (by decide), va_up_ne _ _ (by decide)]
      have qg_2 : (va_up (va_up g 10 (upd (g 10) i (nI j))) 11 (upd (g 11) i (nI k))) 2 = g 2 := by rw [va_up_ne _ _ (by decide), va_up_ne _ _ (by decide)]
      have qg_3 : (va_up (va_up g 10 (upd (g 10) i (nI j))) 11 (upd (g 11) i (nI k))) 3 = g 3 := by rw [va_up_ne _ _ (by decide), va_up_ne _ _ (by decide)]
      have qg_4 : (va_up (va_up g 10 (upd (g 10) i (nI j))) 11 (upd (g 11) i (nI k))) 4 = g 4 := by rw [va_up_ne _ _ (by decide), va_up_ne _ _ (by decide)]
      have qg_5 : (va_up (va_up g 10 (upd (g 10) i (nI j))) 11 (upd (g 11) i (nI k))) 5 = g 5 := by rw [va_up_ne _ _ (by decide), va_up_ne _ _ (by decide)]
      have qg_6 : (va_up (va_up g 10 (upd (g 10) i (nI j))) 11 (upd (g 11) i (nI k))) 6 = g 6 := by rw [va_up_ne _ _ (by decide), va_up_ne _ _ (by decide)]
      have qg_7 : (va_up (va_up g 10 (upd (g 10) i (nI j))) 11 (upd (g 11) i (nI k))) 7 = g 7 := by rw [va_up_ne _ _ (by decide), va_up_ne _ _ (by decide)]
      have qg_8 : (va_up (va_up g 10 (upd (g 10) i (nI j))) 11 (upd (g 11) i (nI k))) 8 = g 8 := by rw [va_up_ne _ _ (by decide), va_up_ne _ _ (by decide)]
      have qg_9 : (va_up (va_up g 10 (upd (g 10) i (nI j))) 11 (upd (g 11) i (nI k))) 9 = g 9 := by rw [va_up_ne _ _ (by decide), va_up_ne _ _ (by decide)]
      have qg_10 : (va_up (va_up g 10 (upd (g 10) i (nI j))) 11 (upd (g 11) i (nI k))) 10 = upd (g 10) i (nI j) := by rw [va_up_ne _ _ (by decide), va_up_self]
      have qg_11 : (va_up (va_up g 10 (upd (g 10) i (nI j))) 11 (upd (g 11) i (nI k))) 11 = upd (g 11) i (nI k) := by rw [va_up_self]
      have qg_12 : (va_up (va_up g 10 (upd (g 10) i (nI j))) 11 (upd (g 11) i (nI k))) 12 = g 12 := by rw [va_up_ne _ _ (by decide), va_up_ne _ _ (by decide)]
      have qg_13 : (va_up (va_up g 10 (upd (g 10) i (nI j))) 11 (upd (g 11) i (nI k))) 13 = g 13 := by rw [va_up_ne _ _ (by decide), va_up_ne _ _ (by decide)]
      have hRz : RepX ca ad n (va_up (va_up g 10 (upd (g 10) i (nI j))) 11 (upd (g 11) i (nI k))) z zn tb f_5 := ⟨(by rw [qg_13]; exact c_0),
            c_1,
            c_2,
            c_3,
            c_4,
            c_5,
            c_6,
            (by rw [qg_0]; exact c_7),
            (by rw [qg_1]; exact c_8),
            c_9,
            c_90,
            c_91,
            c_92,
            c_93,
            c_94,
            c_95,
            (by rw [qg_4]; exact c_96),
            (by rw [qg_5]; exact c_97),
            (by rw [qg_6]; exact c_98),
            c_99,
            (by rw [qg_2]; exact c_300),
            (by rw [qg_3]; exact c_301),
            (fun i9 hi9 => by
            by_cases ei : i9 = i
            · rw [ei]; simp only [qg_7, qg_8, qg_9, qg_10, qg_11, qg_12, pk_us]; exact c_10_4_i
            · simp only [qg_7, qg_8, qg_9, qg_10, qg_11, qg_12, pk_un ei]; rw [ef_5, va_up_ne _ _ (by omega)]; exact F_kf i9 hi9),
            (fun i9 hi9 => by rw [ef_5, va_up_ne _ _ (by omega)]; exact F_oc i9 hi9),
            (fun i9 hi9 => by rw [va_up_ne _ _ (by omega), va_up_ne _ _ (by omega)]; rw [ef_5, va_up_ne _ _ (by omega)]; exact F_va i9 hi9),
            (fun i9 hi9 => by rw [va_up_ne _ _ (by omega), va_up_ne _ _ (by omega)]; rw [ef_5, va_up_ne _ _ (by omega)]; exact F_lw i9 hi9),
            (fun i9 hi9 => by rw [va_up_ne _ _ (by omega), va_up_ne _ _ (by omega)]; rw [ef_5, va_up_ne _ _ (by omega)]; exact F_M i9 hi9), hzn, hT⟩
      exact x_iret hx hb hr hlocks hw ⟨rfl, z, zn, hRz, (fun y hy => by rw [ef_5, va_up_ne _ _ (by omega)])⟩ dX5_schedule_44
    · omega

abbrev rmX5_told : Room := { frames := 0, cells := 0, slots := 0, locals := 0 }

set_option maxHeartbeats 4000000 in
set_option maxRecDepth 100000 in
theorem k_X5_told_none (l : Launch) (D : va_G) (ca : Nat → ClassId) (N : Nat) (ad : Nat → Nat) (B tR tK : Nat) (f : Nat → va_E) (dd : xD N ad B) (hN : 302 ≤ N) (n : Nat → Nat) (g : Nat → Nat → Int32) (z : Nat → Nat → Int32) (zn : Nat) (tb : Nat → Int32) (hR : RepX ca ad n g z zn tb f) (x : Int32) (y : Int32) (ho : x < 0 ∨ nI (n 3) ≤ x) : xMi l yX5_told wsX5_told rmX5_told [.ref (ad 0), .int x, .int y] D ca N ad B tR tK f (fun r u => (-1) = r ∧ ∃ (z1 : Nat → Nat → Int32) (zn1 : Nat), RepX ca ad n g z1 zn1 tb u ∧ ∀ y, 302 ≤ y → u y = f y) := by
  refine x_open (cc := cX5_told) (maxL := 3) (ret := (some .int)) (by decide) rfl (Nat.le_of_ble_eq_true rfl) ?_
  intro p e s m below meth c ls hx hb hml hown hts hr hlocks hnm hB hK hE hw hl
  have hown : s.vm.findClass RX5 = some m.cls := hown
  have hl : lv_has ls 3 [(0, .ref (ad 0)), (1, .int x), (2, .int y)] := hl
  obtain ⟨c_0, c_1, c_2, c_3, c_4, c_5, c_6, c_7, c_8, c_9, c_90, c_91, c_92, c_93, c_94, c_95, c_96, c_97, c_98, c_99, c_300, c_301, F_kf, F_oc, F_va, F_lw, F_M, hzn, hT⟩ := hR
  have hin_6 : ∀ w ∈ u_ws RX5 TX5 13, w ∈ wsX5_told := by decide +kernel
  have hf_150 := hts (.fieldLink RX5 150 "FixityRows" "checkedCount" "I") (by decide +kernel)
  have b_0 := c_0
  have b_1 := c_1
  have b_2 := c_2
  have b_3 := c_3
  have b_4 := c_4
  have b_5 := c_5
  have b_6 := c_6
  have b_7 := c_7
  have b_8 := c_8
  have b_9 := c_9
  have b_90 := c_90
  have b_91 := c_91
  have b_92 := c_92
  have b_93 := c_93
  have b_94 := c_94
  have b_95 := c_95
  have b_96 := c_96
  have b_97 := c_97
  have b_98 := c_98
  have b_99 := c_99
  have b_300 := c_300
  have b_301 := c_301
  refine lv_iload_n hx hb dX5_told_0 rfl (lv_at hl 1 rfl) ?_
  refine lv_if_lt (tgt := 12) hx hb dX5_told_1 (by decide) (fun hc_1 => ?_) (fun hc_1 => ?_)
  · refine lv_iconst (v := (-1)) hx hb dX5_told_12 (by decide) ?_
    have hRz : RepX ca ad n g z zn tb f := ⟨c_0,
          c_1,
          c_2,
          c_3,
          c_4,
          c_5,
          c_6,
          c_7,
          c_8,
          c_9,
          c_90,
          c_91,
          c_92,
          c_93,
          c_94,
          c_95,
          c_96,
          c_97,
          c_98,
          c_99,
          c_300,
          c_301,
          (fun i9 hi9 => by exact F_kf i9 hi9),
          (fun i9 hi9 => by exact F_oc i9 hi9),
          (fun i9 hi9 => by exact F_va i9 hi9),
          (fun i9 hi9 => by exact F_lw i9 hi9),
          (fun i9 hi9 => by exact F_M i9 hi9), hzn, hT⟩
    exact x_iret hx hb hr hlocks hw ⟨rfl, z, zn, hRz, (fun _ _ => rfl)⟩ dX5_told_13
  · refine lv_iload_n hx hb dX5_told_4 rfl (lv_at hl 1 rfl) ?_
    refine lv_aload_n hx hb dX5_told_5 rfl (lv_at hl 0 rfl) ?_
    refine x_get (ci := 6) (C := RX5) (T := TX5) (n := 13) (ref := RX5) hx hb hts hin_6 hown hK hw 0 (by omega) c_0 rfl 11 (by decide) hf_150 (fun _ h => h) rfl dX5_told_6 ?_
    refine lv_icmp_lt (tgt := 14) hx hb dX5_told_9 (by decide) (fun hc_9 => ?_) (fun hc_9 => ?_)
    · exact absurd ho (fun z => z.elim hc_1 (fun q => absurd hc_9 (Int32.not_lt.mpr q)))
    · refine lv_iconst (v := (-1)) hx hb dX5_told_12 (by decide) ?_
      have hRz : RepX ca ad n g z zn tb f := ⟨c_0,
            c_1,
            c_2,
            c_3,
            c_4,
            c_5,
            c_6,
            c_7,
            c_8,
            c_9,
            c_90,
            c_91,
            c_92,
            c_93,
            c_94,
            c_95,
            c_96,
            c_97,
            c_98,
            c_99,
            c_300,
            c_301,
            (fun i9 hi9 => by exact F_kf i9 hi9),
            (fun i9 hi9 => by exact F_oc i9 hi9),
            (fun i9 hi9 => by exact F_va i9 hi9),
            (fun i9 hi9 => by exact F_lw i9 hi9),
            (fun i9 hi9 => by exact F_M i9 hi9), hzn, hT⟩
      exact x_iret hx hb hr hlocks hw ⟨rfl, z, zn, hRz, (fun _ _ => rfl)⟩ dX5_told_13

set_option maxHeartbeats 4000000 in
set_option maxRecDepth 100000 in
theorem k_X5_told_w0 (l : Launch) (D : va_G) (ca : Nat → ClassId) (N : Nat) (ad : Nat → Nat) (B tR tK : Nat) (f : Nat → va_E) (dd : xD N ad B) (hN : 302 ≤ N) (n : Nat → Nat) (g : Nat → Nat → Int32) (z : Nat → Nat → Int32) (zn : Nat) (tb : Nat → Int32) (hR : RepX ca ad n g z zn tb f) (i : Nat) (h3 : n 3 ≤ 20) (hi : i < n 3) : xMi l yX5_told wsX5_told rmX5_told [.ref (ad 0), .int (nI i), .int (nI 0)] D ca N ad B tR tK f (fun r u => g 2 i = r ∧ ∃ (z1 : Nat → Nat → Int32) (zn1 : Nat), RepX ca ad n g z1 zn1 tb u ∧ ∀ y, 302 ≤ y → u y = f y) := by
  refine x_open (cc := cX5_told) (maxL := 3) (ret := (some .int)) (by decide) rfl (Nat.le_of_ble_eq_true rfl) ?_
  intro p e s m below meth c ls hx hb hml hown hts hr hlocks hnm hB hK hE hw hl
  have hown : s.vm.findClass RX5 = some m.cls := hown
  have hl : lv_has ls 3 [(0, .ref (ad 0)), (1, .int (nI i)), (2, .int (nI 0))] := hl
  obtain ⟨c_0, c_1, c_2, c_3, c_4, c_5, c_6, c_7, c_8, c_9, c_90, c_91, c_92, c_93, c_94, c_95, c_96, c_97, c_98, c_99, c_300, c_301, F_kf, F_oc, F_va, F_lw, F_M, hzn, hT⟩ := hR
  have hin_6 : ∀ w ∈ u_ws RX5 TX5 13, w ∈ wsX5_told := by decide +kernel
  have hf_150 := hts (.fieldLink RX5 150 "FixityRows" "checkedCount" "I") (by decide +kernel)
  have hf_61 := hts (.fieldLink RX5 61 "FixityRows" "checkedFiles" "[I") (by decide +kernel)
  have b_0 := c_0
  have b_1 := c_1
  have b_2 := c_2
  have b_3 := c_3
  have b_4 := c_4
  have b_5 := c_5
  have b_6 := c_6
  have b_7 := c_7
  have b_8 := c_8
  have b_9 := c_9
  have b_90 := c_90
  have b_91 := c_91
  have b_92 := c_92
  have b_93 := c_93
  have b_94 := c_94
  have b_95 := c_95
  have b_96 := c_96
  have b_97 := c_97
  have b_98 := c_98
  have b_99 := c_99
  have b_300 := c_300
  have b_301 := c_301
  refine lv_iload_n hx hb dX5_told_0 rfl (lv_at hl 1 rfl) ?_
  refine n_iflt (tgt := 12) hx hb dX5_told_1 (by decide) (by omega) ?_
  refine lv_iload_n hx hb dX5_told_4 rfl (lv_at hl 1 rfl) ?_
  refine lv_aload_n hx hb dX5_told_5 rfl (lv_at hl 0 rfl) ?_
  refine x_get (ci := 6) (C := RX5) (T := TX5) (n := 13) (ref := RX5) hx hb hts hin_6 hown hK hw 0 (by omega) c_0 rfl 11 (by decide) hf_150 (fun _ h => h) rfl dX5_told_6 ?_
  refine n_iclt (tgt := 14) hx hb dX5_told_9 (by decide) (by omega) (by omega) (fun hc_9 => ?_) (fun hc_9 => ?_)
  · refine lv_iload_n hx hb dX5_told_14 rfl (lv_at hl 2 rfl) ?_
    refine lv_lookup (off := 25) (tgt := 40) hx hb dX5_told_15 (by decide) (by decide) (by decide) ?_
    refine lv_aload_n hx hb dX5_told_40 rfl (lv_at hl 0 rfl) ?_
    refine x_get (ci := 6) (C := RX5) (T := TX5) (n := 13) (ref := RX5) hx hb hts hin_6 hown hK hw 0 (by omega) c_0 rfl 9 (by decide) hf_61 (fun _ h => h) rfl dX5_told_41 ?_
    refine lv_iload_n hx hb dX5_told_44 rfl (lv_at hl 1 rfl) ?_
    refine x_iald (j := i) hx hb hK hw 300 0 (by omega) c_300 rfl rfl (by omega) (by decide) dX5_told_45 ?_
    have hRz : RepX ca ad n g z zn tb f := ⟨c_0,
          c_1,
          c_2,
          c_3,
          c_4,
          c_5,
          c_6,
          c_7,
          c_8,
          c_9,
          c_90,
          c_91,
          c_92,
          c_93,
          c_94,
          c_95,
          c_96,
          c_97,
          c_98,
          c_99,
          c_300,
          c_301,
          (fun i9 hi9 => by exact F_kf i9 hi9),
          (fun i9 hi9 => by exact F_oc i9 hi9),
          (fun i9 hi9 => by exact F_va i9 hi9),
          (fun i9 hi9 => by exact F_lw i9 hi9),
          (fun i9 hi9 => by exact F_M i9 hi9), hzn, hT⟩
    exact x_iret hx hb hr hlocks hw ⟨rfl, z, zn, hRz, (fun _ _ => rfl)⟩ dX5_told_46
  · omega

set_option maxHeartbeats 4000000 in
set_option maxRecDepth 100000 in
theorem k_X5_told_w1 (l : Launch) (D : va_G) (ca : Nat → ClassId) (N : Nat) (ad : Nat → Nat) (B tR tK : Nat) (f : Nat → va_E) (dd : xD N ad B) (hN : 302 ≤ N) (n : Nat → Nat) (g : Nat → Nat → Int32) (z : Nat → Nat → Int32) (zn : Nat) (tb : Nat → Int32) (hR : RepX ca ad n g z zn tb f) (i : Nat) (h3 : n 3 ≤ 20) (hi : i < n 3) (hz9 : g 3 i = 0 ∨ g 3 i = 1) : xMi l yX5_told wsX5_told rmX5_told [.ref (ad 0), .int (nI i), .int (nI 1)] D ca N ad B tR tK f (fun r u => g 3 i = r ∧ ∃ (z1 : Nat → Nat → Int32) (zn1 : Nat), RepX ca ad n g z1 zn1 tb u ∧ ∀ y, 302 ≤ y → u y = f y) := by
  refine x_open (cc := cX5_told) (maxL := 3) (ret := (some .int)) (by decide) rfl (Nat.le_of_ble_eq_true rfl) ?_
  intro p e s m below meth c ls hx hb hml hown hts hr hlocks hnm hB hK hE hw hl
  have hown : s.vm.findClass RX5 = some m.cls := hown
  have hl : lv_has ls 3 [(0, .ref (ad 0)), (1, .int (nI i)), (2, .int (nI 1))] := hl
  obtain ⟨c_0, c_1, c_2, c_3, c_4, c_5, c_6, c_7, c_8, c_9, c_90, c_91, c_92, c_93, c_94, c_95, c_96, c_97, c_98, c_99, c_300, c_301, F_kf, F_oc, F_va, F_lw, F_M, hzn, hT⟩ := hR
  have hin_6 : ∀ w ∈ u_ws RX5 TX5 13, w ∈ wsX5_told := by decide +kernel
  have hf_150 := hts (.fieldLink RX5 150 "FixityRows" "checkedCount" "I") (by decide +kernel)
  have hf_64 := hts (.fieldLink RX5 64 "FixityRows" "checkedFits" "[Z") (by decide +kernel)
  have b_0 := c_0
  have b_1 := c_1
  have b_2 := c_2
  have b_3 := c_3
  have b_4 := c_4
  have b_5 := c_5
  have b_6 := c_6
  have b_7 := c_7
  have b_8 := c_8
  have b_9 := c_9
  have b_90 := c_90
  have b_91 := c_91
  have b_92 := c_92
  have b_93 := c_93
  have b_94 := c_94
  have b_95 := c_95
  have b_96 := c_96
  have b_97 := c_97
  have b_98 := c_98
  have b_99 := c_99
  have b_300 := c_300
  have b_301 := c_301
  refine lv_iload_n hx hb dX5_told_0 rfl (lv_at hl 1 rfl) ?_
  refine n_iflt (tgt := 12) hx hb dX5_told_1 (by decide) (by omega) ?_
  refine lv_iload_n hx hb dX5_told_4 rfl (lv_at hl 1 rfl) ?_
  refine lv_aload_n hx hb dX5_told_5 rfl (lv_at hl 0 rfl) ?_
  refine x_get (ci := 6) (C := RX5) (T := TX5) (n := 13) (ref := RX5) hx hb hts hin_6 hown hK hw 0 (by omega) c_0 rfl 11 (by decide) hf_150 (fun _ h => h) rfl dX5_told_6 ?_
  refine n_iclt (tgt := 14) hx hb dX5_told_9 (by decide) (by omega) (by omega) (fun hc_9 => ?_) (fun hc_9 => ?_)
  · refine lv_iload_n hx hb dX5_told_14 rfl (lv_at hl 2 rfl) ?_
    refine lv_lookup (off := 32) (tgt := 47) hx hb dX5_told_15 (by decide) (by decide) (by decide) ?_
    refine lv_aload_n hx hb dX5_told_47 rfl (lv_at hl 0 rfl) ?_
    refine x_get (ci := 6) (C := RX5) (T := TX5) (n := 13) (ref := RX5) hx hb hts hin_6 hown hK hw 0 (by omega) c_0 rfl 10 (by decide) hf_64 (fun _ h => h) rfl dX5_told_48 ?_
    refine lv_iload_n hx hb dX5_told_51 rfl (lv_at hl 1 rfl) ?_
    refine x_zald (j := i) hx hb hK hw 301 2 (by omega) c_301 rfl rfl (by omega) (by decide) dX5_told_52 ?_
    refine lv_if_eq (tgt := 60) hx hb dX5_told_53 (by decide) (fun hc_53 => ?_) (fun hc_53 => ?_)
    · refine lv_iconst (v := nI 0) hx hb dX5_told_60 (by decide) ?_
      have hRz : RepX ca ad n g z zn tb f := ⟨c_0,
            c_1,
            c_2,
            c_3,
            c_4,
            c_5,
            c_6,
            c_7,
            c_8,
            c_9,
            c_90,
            c_91,
            c_92,
            c_93,
            c_94,
            c_95,
            c_96,
            c_97,
            c_98,
            c_99,
            c_300,
            c_301,
            (fun i9 hi9 => by exact F_kf i9 hi9),
            (fun i9 hi9 => by exact F_oc i9 hi9),
            (fun i9 hi9 => by exact F_va i9 hi9),
            (fun i9 hi9 => by exact F_lw i9 hi9),
            (fun i9 hi9 => by exact F_M i9 hi9), hzn, hT⟩
      exact x_iret hx hb hr hlocks hw ⟨hc_53, z, zn, hRz, (fun _ _ => rfl)⟩ dX5_told_61
    · refine lv_iconst (v := nI 1) hx hb dX5_told_56 (by decide) ?_
      refine lv_goto (tgt := 61) hx hb dX5_told_57 (by decide) ?_
      have hRz : RepX ca ad n g z zn tb f := ⟨c_0,
            c_1,
            c_2,
            c_3,
            c_4,
            c_5,
            c_6,
            c_7,
            c_8,
            c_9,
            c_90,
            c_91,
            c_92,
            c_93,
            c_94,
            c_95,
            c_96,
            c_97,
            c_98,
            c_99,
            c_300,
            c_301,
            (fun i9 hi9 => by exact F_kf i9 hi9),
            (fun i9 hi9 => by exact F_oc i9 hi9),
            (fun i9 hi9 => by exact F_va i9 hi9),
            (fun i9 hi9 => by exact F_lw i9 hi9),
            (fun i9 hi9 => by exact F_M i9 hi9), hzn, hT⟩
      exact x_iret hx hb hr hlocks hw ⟨(hz9.resolve_left hc_53), z, zn, hRz, (fun _ _ => rfl)⟩ dX5_told_61
  · omega

set_option maxHeartbeats 4000000 in
set_option maxRecDepth 100000 in
theorem k_X5_told_no (l : Launch) (D : va_G) (ca : Nat → ClassId) (N : Nat) (ad : Nat → Nat) (B tR tK : Nat) (f : Nat → va_E) (dd : xD N ad B) (hN : 302 ≤ N) (n : Nat → Nat) (g : Nat → Nat → Int32) (z : Nat → Nat → Int32) (zn : Nat) (tb : Nat → Int32) (hR : RepX ca ad n g z zn tb f) (i : Nat) (y : Int32) (h3 : n 3 ≤ 20) (hi : i < n 3) (ho0 : ¬ y = 0) (ho1 : ¬ y = nI 1) : xMi l yX5_told wsX5_told rmX5_told [.ref (ad 0), .int (nI i), .int y] D ca N ad B tR tK f (fun r u => (-1) = r ∧ ∃ (z1 : Nat → Nat → Int32) (zn1 : Nat), RepX ca ad n g z1 zn1 tb u ∧ ∀ y, 302 ≤ y → u y = f y) := by
  refine x_open (cc := cX5_told) (maxL := 3) (ret := (some .int)) (by decide) rfl (Nat.le_of_ble_eq_true rfl) ?_
  intro p e s m below meth c ls hx hb hml hown hts hr hlocks hnm hB hK hE hw hl
  have hown : s.vm.findClass RX5 = some m.cls := hown
  have hl : lv_has ls 3 [(0, .ref (ad 0)), (1, .int (nI i)), (2, .int y)] := hl
  obtain ⟨c_0, c_1, c_2, c_3, c_4, c_5, c_6, c_7, c_8, c_9, c_90, c_91, c_92, c_93, c_94, c_95, c_96, c_97, c_98, c_99, c_300, c_301, F_kf, F_oc, F_va, F_lw, F_M, hzn, hT⟩ := hR
  have hin_6 : ∀ w ∈ u_ws RX5 TX5 13, w ∈ wsX5_told := by decide +kernel
  have hf_150 := hts (.fieldLink RX5 150 "FixityRows" "checkedCount" "I") (by decide +kernel)
  have b_0 := c_0
  have b_1 := c_1
  have b_2 := c_2
  have b_3 := c_3
  have b_4 := c_4
  have b_5 := c_5
  have b_6 := c_6
  have b_7 := c_7
  have b_8 := c_8
  have b_9 := c_9
  have b_90 := c_90
  have b_91 := c_91
  have b_92 := c_92
  have b_93 := c_93
  have b_94 := c_94
  have b_95 := c_95
  have b_96 := c_96
  have b_97 := c_97
  have b_98 := c_98
  have b_99 := c_99
  have b_300 := c_300
  have b_301 := c_301
  refine lv_iload_n hx hb dX5_told_0 rfl (lv_at hl 1 rfl) ?_
  refine n_iflt (tgt := 12) hx hb dX5_told_1 (by decide) (by omega) ?_
  refine lv_iload_n hx hb dX5_told_4 rfl (lv_at hl 1 rfl) ?_
  refine lv_aload_n hx hb dX5_told_5 rfl (lv_at hl 0 rfl) ?_
  refine x_get (ci := 6) (C := RX5) (T := TX5) (n := 13) (ref := RX5) hx hb hts hin_6 hown hK hw 0 (by omega) c_0 rfl 11 (by decide) hf_150 (fun _ h => h) rfl dX5_told_6 ?_
  refine n_iclt (tgt := 14) hx hb dX5_told_9 (by decide) (by omega) (by omega) (fun hc_9 => ?_) (fun hc_9 => ?_)
  · refine lv_iload_n hx hb dX5_told_14 rfl (lv_at hl 2 rfl) ?_
    refine lv_lookup (off := 47) (tgt := 62) hx hb dX5_told_15 (by decide) (by rw [show (#[((0 : Int), (25 : Int)), (1, 32)] : Array (Int × Int)).toList = [(0, 25), (1, 32)] from rfl, lv_osw ho0 (by decide), lv_osw ho1 (by decide)]; rfl) (by decide) ?_
    refine lv_iconst (v := (-1)) hx hb dX5_told_62 (by decide) ?_
    have hRz : RepX ca ad n g z zn tb f := ⟨c_0,
          c_1,
          c_2,
          c_3,
          c_4,
          c_5,
          c_6,
          c_7,
          c_8,
          c_9,
          c_90,
          c_91,
          c_92,
          c_93,
          c_94,
          c_95,
          c_96,
          c_97,
          c_98,
          c_99,
          c_300,
          c_301,
          (fun i9 hi9 => by exact F_kf i9 hi9),
          (fun i9 hi9 => by exact F_oc i9 hi9),
          (fun i9 hi9 => by exact F_va i9 hi9),
          (fun i9 hi9 => by exact F_lw i9 hi9),
          (fun i9 hi9 => by exact F_M i9 hi9), hzn, hT⟩
    exact x_iret hx hb hr hlocks hw ⟨rfl, z, zn, hRz, (fun _ _ => rfl)⟩ dX5_told_63
  · omega

abbrev rmX5_about : Room := { frames := 1, cells := 0, slots := 0, locals := 21 }

set_option maxHeartbeats 4000000 in
set_option maxRecDepth 100000 in
theorem k_X5_about_nofile (l : Launch) (D : va_G) (ca : Nat → ClassId) (N : Nat) (ad : Nat → Nat) (B tR tK : Nat) (f : Nat → va_E) (dd : xD N ad B) (hN : 302 ≤ N) (n : Nat → Nat) (g : Nat → Nat → Int32) (z : Nat → Nat → Int32) (zn : Nat) (tb : Nat → Int32) (hR : RepX ca ad n g z zn tb f) (x : Int32) (y : Int32) (ho : x < 0 ∨ nI (n 2) ≤ x) : xMi l yX5_about wsX5_about rmX5_about [.ref (ad 0), .int x, .int y] D ca N ad B tR tK f (fun r u => (-1) = r ∧ ∃ (z1 : Nat → Nat → Int32) (zn1 : Nat), RepX ca ad n g z1 zn1 tb u ∧ ∀ y, 302 ≤ y → u y = f y) := by
  refine x_open (cc := cX5_about) (maxL := 4) (ret := (some .int)) (by decide) rfl (Nat.le_of_ble_eq_true rfl) ?_
  intro p e s m below meth c ls hx hb hml hown hts hr hlocks hnm hB hK hE hw hl
  have hown : s.vm.findClass RX5 = some m.cls := hown
  have hl : lv_has ls 4 [(0, .ref (ad 0)), (1, .int x), (2, .int y)] := hl
  obtain ⟨c_0, c_1, c_2, c_3, c_4, c_5, c_6, c_7, c_8, c_9, c_90, c_91, c_92, c_93, c_94, c_95, c_96, c_97, c_98, c_99, c_300, c_301, F_kf, F_oc, F_va, F_lw, F_M, hzn, hT⟩ := hR
  have b_0 := c_0
  have b_1 := c_1
  have b_2 := c_2
  have b_3 := c_3
  have b_4 := c_4
  have b_5 := c_5
  have b_6 := c_6
  have b_7 := c_7
  have b_8 := c_8
  have b_9 := c_9
  have b_90 := c_90
  have b_91 := c_91
  have b_92 := c_92
  have b_93 := c_93
  have b_94 := c_94
  have b_95 := c_95
  have b_96 := c_96
  have b_97 := c_97
  have b_98 := c_98
  have b_99 := c_99
  have b_300 := c_300
  have b_301 := c_301
  refine lv_aload_n hx hb dX5_about_0 rfl (lv_at hl 0 rfl) ?_
  refine lv_iload_n hx hb dX5_about_1 rfl (lv_at hl 1 rfl) ?_
  have hRk : RepX ca ad n g z zn tb f := ⟨c_0,
        c_1,
        c_2,
        c_3,
        c_4,
        c_5,
        c_6,
        c_7,
        c_8,
        c_9,
        c_90,
        c_91,
        c_92,
        c_93,
        c_94,
        c_95,
        c_96,
        c_97,
        c_98,
        c_99,
        c_300,
        c_301,
        (fun i9 hi9 => by exact F_kf i9 hi9),
        (fun i9 hi9 => by exact F_oc i9 hi9),
        (fun i9 hi9 => by exact F_va i9 hi9),
        (fun i9 hi9 => by exact F_lw i9 hi9),
        (fun i9 hi9 => by exact F_M i9 hi9), hzn, hT⟩
  have hfr : ∀ y, 302 ≤ y → f y = f y := (fun _ _ => rfl)
  refine x_Vi (q := 0) (As := [.int x]) (rest := []) ⟨hx, hb, hml, hown, hts⟩ (k_X5_isFile_no l D ca N ad B tR tK f dd hN n g z zn tb hRk x ho) (cwV 1 hts gX5_about_X5_isFile rfl rfl rfl (by decide +kernel) ⟨Nat.le_of_ble_eq_true rfl, Nat.le_of_ble_eq_true rfl⟩) hK hE hB hw (by omega) c_0 rfl rfl rfl rfl hl.1 (Nat.le_of_ble_eq_true rfl) ⟨Nat.zero_le _, Nat.zero_le _⟩ dX5_about_2 (fun r_2 f_1 H locs hp hw => ?_)
  obtain ⟨er, hp⟩ := hp
  rw [← er]
  rw [← hp] at hw
  refine lv_if_ne (tgt := 10) hx hb dX5_about_5 (by decide) (fun h => False.elim (h (by decide))) (fun _ => ?_)
  refine lv_iconst (v := (-1)) hx hb dX5_about_8 (by decide) ?_
  have hRz : RepX ca ad n g z zn tb f := ⟨c_0,
        c_1,
        c_2,
        c_3,
        c_4,
        c_5,
        c_6,
        c_7,
        c_8,
        c_9,
        c_90,
        c_91,
        c_92,
        c_93,
        c_94,
        c_95,
        c_96,
        c_97,
        c_98,
        c_99,
        c_300,
        c_301,
        (fun i9 hi9 => by exact F_kf i9 hi9),
        (fun i9 hi9 => by exact F_oc i9 hi9),
        (fun i9 hi9 => by exact F_va i9 hi9),
        (fun i9 hi9 => by exact F_lw i9 hi9),
        (fun i9 hi9 => by exact F_M i9 hi9), hzn, hT⟩
  exact x_iret hx hb hr hlocks hw ⟨rfl, z, zn, hRz, (fun _ _ => rfl)⟩ dX5_about_9

set_option maxHeartbeats 4000000 in
set_option maxRecDepth 100000 in
theorem k_X5_about_w0 (l : Launch) (D : va_G) (ca : Nat → ClassId) (N : Nat) (ad : Nat → Nat) (B tR tK : Nat) (f : Nat → va_E) (dd : xD N ad B) (hN : 302 ≤ N) (n : Nat → Nat) (g : Nat → Nat → Int32) (z : Nat → Nat → Int32) (zn : Nat) (tb : Nat → Int32) (hR : RepX ca ad n g z zn tb f) (i : Nat) (h2 : n 2 ≤ 20) (hi : i < n 2) : xMi l yX5_about wsX5_about rmX5_about [.ref (ad 0), .int (nI i), .int (nI 0)] D ca N ad B tR tK f (fun r u => nI (n (10 + i)) = r ∧ ∃ (z1 : Nat → Nat → Int32) (zn1 : Nat), RepX ca ad n g z1 zn1 tb u ∧ ∀ y, 302 ≤ y → u y = f y) := by
  refine x_open (cc := cX5_about) (maxL := 4) (ret := (some .int)) (by decide) rfl (Nat.le_of_ble_eq_true rfl) ?_
  intro p e s m below meth c ls hx hb hml hown hts hr hlocks hnm hB hK hE hw hl
  have hown : s.vm.findClass RX5 = some m.cls := hown
  have hl : lv_has ls 4 [(0, .ref (ad 0)), (1, .int (nI i)), (2, .int (nI 0))] := hl
  obtain ⟨c_0, c_1, c_2, c_3, c_4, c_5, c_6, c_7, c_8, c_9, c_90, c_91, c_92, c_93, c_94, c_95, c_96, c_97, c_98, c_99, c_300, c_301, F_kf, F_oc, F_va, F_lw, F_M, hzn, hT⟩ := hR
  have hin_6 : ∀ w ∈ u_ws RX5 TX5 13, w ∈ wsX5_about := by decide +kernel
  have hf_49 := hts (.fieldLink RX5 49 "FixityRows" "files" "[LFixityRows$KeptFile;") (by decide +kernel)
  have hin_1 : ∀ w ∈ u_ws RX0 TX0 8, w ∈ wsX5_about := by decide +kernel
  have b_0 := c_0
  have b_1 := c_1
  have b_2 := c_2
  have b_3 := c_3
  have b_4 := c_4
  have b_5 := c_5
  have b_6 := c_6
  have b_7 := c_7
  have b_8 := c_8
  have b_9 := c_9
  have b_90 := c_90
  have b_91 := c_91
  have b_92 := c_92
  have b_93 := c_93
  have b_94 := c_94
  have b_95 := c_95
  have b_96 := c_96
  have b_97 := c_97
  have b_98 := c_98
  have b_99 := c_99
  have b_300 := c_300
  have b_301 := c_301
  refine lv_aload_n hx hb dX5_about_0 rfl (lv_at hl 0 rfl) ?_
  refine lv_iload_n hx hb dX5_about_1 rfl (lv_at hl 1 rfl) ?_
  have hRk : RepX ca ad n g z zn tb f := ⟨c_0,
        c_1,
        c_2,
        c_3,
        c_4,
        c_5,
        c_6,
        c_7,
        c_8,
        c_9,
        c_90,
        c_91,
        c_92,
        c_93,
        c_94,
        c_95,
        c_96,
        c_97,
        c_98,
        c_99,
        c_300,
        c_301,
        (fun i9 hi9 => by exact F_kf i9 hi9),
        (fun i9 hi9 => by exact F_oc i9 hi9),
        (fun i9 hi9 => by exact F_va i9 hi9),
        (fun i9 hi9 => by exact F_lw i9 hi9),
        (fun i9 hi9 => by exact F_M i9 hi9), hzn, hT⟩
  have hfr : ∀ y, 302 ≤ y → f y = f y := (fun _ _ => rfl)
  refine x_Vi (q := 0) (As := [.int (nI i)]) (rest := []) ⟨hx, hb, hml, hown, hts⟩ (k_X5_isFile_yes l D ca N ad B tR tK f dd hN n g z zn tb hRk i (by omega) (by omega)) (cwV 1 hts gX5_about_X5_isFile rfl rfl rfl (by decide +kernel) ⟨Nat.le_of_ble_eq_true rfl, Nat.le_of_ble_eq_true rfl⟩) hK hE hB hw (by omega) c_0 rfl rfl rfl rfl hl.1 (Nat.le_of_ble_eq_true rfl) ⟨Nat.zero_le _, Nat.zero_le _⟩ dX5_about_2 (fun r_2 f_1 H locs hp hw => ?_)
  obtain ⟨er, hp⟩ := hp
  rw [← er]
  rw [← hp] at hw
  refine lv_if_ne (tgt := 10) hx hb dX5_about_5 (by decide) (fun _ => ?_) (fun h => absurd h (by decide))
  refine lv_aload_n hx hb dX5_about_10 rfl (lv_at hl 0 rfl) ?_
  refine x_get (ci := 6) (C := RX5) (T := TX5) (n := 13) (ref := RX5) hx hb hts hin_6 hown hK hw 0 (by omega) c_0 rfl 6 (by decide) hf_49 (fun _ h => h) rfl dX5_about_11 ?_
  refine lv_iload_n hx hb dX5_about_14 rfl (lv_at hl 1 rfl) ?_
  refine x_aald (j := i) (a := ad (10 + 4 * i)) hx hb hK hw 9 3 (by omega) c_9 rfl rfl (by omega) (by decide) rfl dX5_about_15 ?_
  refine lv_astore_n (lv' := [(3, .ref (ad (10 + 4 * i))), (0, .ref (ad 0)), (1, .int (nI i)), (2, .int (nI 0))]) hx hb dX5_about_16 rfl hl (by decide) rfl (fun ls hl => ?_)
  refine lv_iload_n hx hb dX5_about_17 rfl (lv_at hl 3 rfl) ?_
  refine lv_tableIn (off := 30) (tgt := 48) hx hb dX5_about_18 (by decide) (by decide) (by decide) (by decide) ?_
  refine lv_aload_n hx hb dX5_about_48 rfl (lv_at hl 0 rfl) ?_
  have c_10_4_i : f (10 + 4 * i) = .inr (1, [.ref (ad (11 + 4 * i)), .ref (ad (13 + 4 * i)), .int (g 7 i), .int (g 8 i), .int (g 9 i), .int (g 10 i), .int (g 11 i), .int (g 12 i)]) := (F_kf i (by omega))
  refine x_getN (ci := 1) (C := RX0) (T := TX0) (n := 8) (ref := RX0) hx hb hts hin_1 hown hK hw (10 + 4 * i) (by omega) c_10_4_i rfl 0 (by decide) (hE.1 (103, "octets", "LFixityRows$Octets;") (by decide)) (fun _ h => h) rfl dX5_about_49 ?_
  have c_11_4_i : f (11 + 4 * i) = .inr (3, [.ref (ad (12 + 4 * i)), .int (nI (n (10 + i)))]) := (F_oc i (by omega))
  refine x_Vi (q := 11 + 4 * i) (As := []) (rest := []) ⟨hx, hb, hml, hown, hts⟩ (k_X2_count l D ca N ad B tR tK f dd (11 + 4 * i) (12 + 4 * i) (n (10 + i)) (by omega) c_11_4_i  ) (cwV 0 hts gX5_about_X2_count rfl rfl rfl (by decide +kernel) ⟨Nat.le_of_ble_eq_true rfl, Nat.le_of_ble_eq_true rfl⟩) hK hE hB hw (by omega) c_11_4_i rfl rfl rfl rfl hl.1 (Nat.le_of_ble_eq_true rfl) ⟨Nat.zero_le _, Nat.zero_le _⟩ dX5_about_52 (fun r_4 f_3 H locs hp hw => ?_)
  obtain ⟨er, eu⟩ := hp
  rw [← er]
  rw [← eu] at hw
  have hRz : RepX ca ad n g z zn tb f := ⟨c_0,
        c_1,
        c_2,
        c_3,
        c_4,
        c_5,
        c_6,
        c_7,
        c_8,
        c_9,
        c_90,
        c_91,
        c_92,
        c_93,
        c_94,
        c_95,
        c_96,
        c_97,
        c_98,
        c_99,
        c_300,
        c_301,
        (fun i9 hi9 => by exact F_kf i9 hi9),
        (fun i9 hi9 => by exact F_oc i9 hi9),
        (fun i9 hi9 => by exact F_va i9 hi9),
        (fun i9 hi9 => by exact F_lw i9 hi9),
        (fun i9 hi9 => by exact F_M i9 hi9), hzn, hT⟩
  exact x_iret hx hb hr hlocks hw ⟨rfl, z, zn, hRz, (fun _ _ => rfl)⟩ dX5_about_55

set_option maxHeartbeats 4000000 in
set_option maxRecDepth 100000 in
theorem k_X5_about_w1 (l : Launch) (D : va_G) (ca : Nat → ClassId) (N : Nat) (ad : Nat → Nat) (B tR tK : Nat) (f : Nat → va_E) (dd : xD N ad B) (hN : 302 ≤ N) (n : Nat → Nat) (g : Nat → Nat → Int32) (z : Nat → Nat → Int32) (zn : Nat) (tb : Nat → Int32) (hR : RepX ca ad n g z zn tb f) (i : Nat) (h2 : n 2 ≤ 20) (hi : i < n 2) : xMi l yX5_about wsX5_about rmX5_about [.ref (ad 0), .int (nI i), .int (nI 1)] D ca N ad B tR tK f (fun r u => g 9 i = r ∧ ∃ (z1 : Nat → Nat → Int32) (zn1 : Nat), RepX ca ad n g z1 zn1 tb u ∧ ∀ y, 302 ≤ y → u y = f y) := by
  refine x_open (cc := cX5_about) (maxL := 4) (ret := (some .int)) (by decide) rfl (Nat.le_of_ble_eq_true rfl) ?_
  intro p e s m below meth c ls hx hb hml hown hts hr hlocks hnm hB hK hE hw hl
  have hown : s.vm.findClass RX5 = some m.cls := hown
  have hl : lv_has ls 4 [(0, .ref (ad 0)), (1, .int (nI i)), (2, .int (nI 1))] := hl
  obtain ⟨c_0, c_1, c_2, c_3, c_4, c_5, c_6, c_7, c_8, c_9, c_90, c_91, c_92, c_93, c_94, c_95, c_96, c_97, c_98, c_99, c_300, c_301, F_kf, F_oc, F_va, F_lw, F_M, hzn, hT⟩ := hR
  have hin_6 : ∀ w ∈ u_ws RX5 TX5 13, w ∈ wsX5_about := by decide +kernel
  have hf_49 := hts (.fieldLink RX5 49 "FixityRows" "files" "[LFixityRows$KeptFile;") (by decide +kernel)
  have hin_1 : ∀ w ∈ u_ws RX0 TX0 8, w ∈ wsX5_about := by decide +kernel
  have b_0 := c_0
  have b_1 := c_1
  have b_2 := c_2
  have b_3 := c_3
  have b_4 := c_4
  have b_5 := c_5
  have b_6 := c_6
  have b_7 := c_7
  have b_8 := c_8
  have b_9 := c_9
  have b_90 := c_90
  have b_91 := c_91
  have b_92 := c_92
  have b_93 := c_93
  have b_94 := c_94
  have b_95 := c_95
  have b_96 := c_96
  have b_97 := c_97
  have b_98 := c_98
  have b_99 := c_99
  have b_300 := c_300
  have b_301 := c_301
  refine lv_aload_n hx hb dX5_about_0 rfl (lv_at hl 0 rfl) ?_
  refine lv_iload_n hx hb dX5_about_1 rfl (lv_at hl 1 rfl) ?_
  have hRk : RepX ca ad n g z zn tb f := ⟨c_0,
        c_1,
        c_2,
        c_3,
        c_4,
        c_5,
        c_6,
        c_7,
        c_8,
        c_9,
        c_90,
        c_91,
        c_92,
        c_93,
        c_94,
        c_95,
        c_96,
        c_97,
        c_98,
        c_99,
        c_300,
        c_301,
        (fun i9 hi9 => by exact F_kf i9 hi9),
        (fun i9 hi9 => by exact F_oc i9 hi9),
        (fun i9 hi9 => by exact F_va i9 hi9),
        (fun i9 hi9 => by exact F_lw i9 hi9),
        (fun i9 hi9 => by exact F_M i9 hi9), hzn, hT⟩
  have hfr : ∀ y, 302 ≤ y → f y = f y := (fun _ _ => rfl)
  refine x_Vi (q := 0) (As := [.int (nI i)]) (rest := []) ⟨hx, hb, hml, hown, hts⟩ (k_X5_isFile_yes l D ca N ad B tR tK f dd hN n g z zn tb hRk i (by omega) (by omega)) (cwV 1 hts gX5_about_X5_isFile rfl rfl rfl (by decide +kernel) ⟨Nat.le_of_ble_eq_true rfl, Nat.le_of_ble_eq_true rfl⟩) hK hE hB hw (by omega) c_0 rfl rfl rfl rfl hl.1 (Nat.le_of_ble_eq_true rfl) ⟨Nat.zero_le _, Nat.zero_le _⟩ dX5_about_2 (fun r_2 f_1 H locs hp hw => ?_)
  obtain ⟨er, hp⟩ := hp
  rw [← er]
  rw [← hp] at hw
  refine lv_if_ne (tgt := 10) hx hb dX5_about_5 (by decide) (fun _ => ?_) (fun h => absurd h (by decide))
  refine lv_aload_n hx hb dX5_about_10 rfl (lv_at hl 0 rfl) ?_
  refine x_get (ci := 6) (C := RX5) (T := TX5) (n := 13) (ref := RX5) hx hb hts hin_6 hown hK hw 0 (by omega) c_0 rfl 6 (by decide) hf_49 (fun _ h => h) rfl dX5_about_11 ?_
  refine lv_iload_n hx hb dX5_about_14 rfl (lv_at hl 1 rfl) ?_
  refine x_aald (j := i) (a := ad (10 + 4 * i)) hx hb hK hw 9 3 (by omega) c_9 rfl rfl (by omega) (by decide) rfl dX5_about_15 ?_
  refine lv_astore_n (lv' := [(3, .ref (ad (10 + 4 * i))), (0, .ref (ad 0)), (1, .int (nI i)), (2, .int (nI 1))]) hx hb dX5_about_16 rfl hl (by decide) rfl (fun ls hl => ?_)
  refine lv_iload_n hx hb dX5_about_17 rfl (lv_at hl 3 rfl) ?_
  refine lv_tableIn (off := 38) (tgt := 56) hx hb dX5_about_18 (by decide) (by decide) (by decide) (by decide) ?_
  refine lv_aload_n hx hb dX5_about_56 rfl (lv_at hl 0 rfl) ?_
  have c_10_4_i : f (10 + 4 * i) = .inr (1, [.ref (ad (11 + 4 * i)), .ref (ad (13 + 4 * i)), .int (g 7 i), .int (g 8 i), .int (g 9 i), .int (g 10 i), .int (g 11 i), .int (g 12 i)]) := (F_kf i (by omega))
  refine x_getN (ci := 1) (C := RX0) (T := TX0) (n := 8) (ref := RX0) hx hb hts hin_1 hown hK hw (10 + 4 * i) (by omega) c_10_4_i rfl 4 (by decide) (hE.1 (173, "fittedDay", "I") (by decide)) (fun _ h => h) rfl dX5_about_57 ?_
  have hRz : RepX ca ad n g z zn tb f := ⟨c_0,
        c_1,
        c_2,
        c_3,
        c_4,
        c_5,
        c_6,
        c_7,
        c_8,
        c_9,
        c_90,
        c_91,
        c_92,
        c_93,
        c_94,
        c_95,
        c_96,
        c_97,
        c_98,
        c_99,
        c_300,
        c_301,
        (fun i9 hi9 => by exact F_kf i9 hi9),
        (fun i9 hi9 => by exact F_oc i9 hi9),
        (fun i9 hi9 => by exact F_va i9 hi9),
        (fun i9 hi9 => by exact F_lw i9 hi9),
        (fun i9 hi9 => by exact F_M i9 hi9), hzn, hT⟩
  exact x_iret hx hb hr hlocks hw ⟨rfl, z, zn, hRz, (fun _ _ => rfl)⟩ dX5_about_60

set_option maxHeartbeats 4000000 in
set_option maxRecDepth 100000 in
theorem k_X5_about_w2 (l : Launch) (D : va_G) (ca : Nat → ClassId) (N : Nat) (ad : Nat → Nat) (B tR tK : Nat) (f : Nat → va_E) (dd : xD N ad B) (hN : 302 ≤ N) (n : Nat → Nat) (g : Nat → Nat → Int32) (z : Nat → Nat → Int32) (zn : Nat) (tb : Nat → Int32) (hR : RepX ca ad n g z zn tb f) (i : Nat) (h2 : n 2 ≤ 20) (hi : i < n 2) : xMi l yX5_about wsX5_about rmX5_about [.ref (ad 0), .int (nI i), .int (nI 2)] D ca N ad B tR tK f (fun r u => g 10 i = r ∧ ∃ (z1 : Nat → Nat → Int32) (zn1 : Nat), RepX ca ad n g z1 zn1 tb u ∧ ∀ y, 302 ≤ y → u y = f y) := by
  refine x_open (cc := cX5_about) (maxL := 4) (ret := (some .int)) (by decide) rfl (Nat.le_of_ble_eq_true rfl) ?_
  intro p e s m below meth c ls hx hb hml hown hts hr hlocks hnm hB hK hE hw hl
  have hown : s.vm.findClass RX5 = some m.cls := hown
  have hl : lv_has ls 4 [(0, .ref (ad 0)), (1, .int (nI i)), (2, .int (nI 2))] := hl
  obtain ⟨c_0, c_1, c_2, c_3, c_4, c_5, c_6, c_7, c_8, c_9, c_90, c_91, c_92, c_93, c_94, c_95, c_96, c_97, c_98, c_99, c_300, c_301, F_kf, F_oc, F_va, F_lw, F_M, hzn, hT⟩ := hR
  have hin_6 : ∀ w ∈ u_ws RX5 TX5 13, w ∈ wsX5_about := by decide +kernel
  have hf_49 := hts (.fieldLink RX5 49 "FixityRows" "files" "[LFixityRows$KeptFile;") (by decide +kernel)
  have hin_1 : ∀ w ∈ u_ws RX0 TX0 8, w ∈ wsX5_about := by decide +kernel
  have b_0 := c_0
  have b_1 := c_1
  have b_2 := c_2
  have b_3 := c_3
  have b_4 := c_4
  have b_5 := c_5
  have b_6 := c_6
  have b_7 := c_7
  have b_8 := c_8
  have b_9 := c_9
  have b_90 := c_90
  have b_91 := c_91
  have b_92 := c_92
  have b_93 := c_93
  have b_94 := c_94
  have b_95 := c_95
  have b_96 := c_96
  have b_97 := c_97
  have b_98 := c_98
  have b_99 := c_99
  have b_300 := c_300
  have b_301 := c_301
  refine lv_aload_n hx hb dX5_about_0 rfl (lv_at hl 0 rfl) ?_
  refine lv_iload_n hx hb dX5_about_1 rfl (lv_at hl 1 rfl) ?_
  have hRk : RepX ca ad n g z zn tb f := ⟨c_0,
        c_1,
        c_2,
        c_3,
        c_4,
        c_5,
        c_6,
        c_7,
        c_8,
        c_9,
        c_90,
        c_91,
        c_92,
        c_93,
        c_94,
        c_95,
        c_96,
        c_97,
        c_98,
        c_99,
        c_300,
        c_301,
        (fun i9 hi9 => by exact F_kf i9 hi9),
        (fun i9 hi9 => by exact F_oc i9 hi9),
        (fun i9 hi9 => by exact F_va i9 hi9),
        (fun i9 hi9 => by exact F_lw i9 hi9),
        (fun i9 hi9 => by exact F_M i9 hi9), hzn, hT⟩
  have hfr : ∀ y, 302 ≤ y → f y = f y := (fun _ _ => rfl)
  refine x_Vi (q := 0) (As := [.int (nI i)]) (rest := []) ⟨hx, hb, hml, hown, hts⟩ (k_X5_isFile_yes l D ca N ad B tR tK f dd hN n g z zn tb hRk i (by omega) (by omega)) (cwV 1 hts gX5_about_X5_isFile rfl rfl rfl (by decide +kernel) ⟨Nat.le_of_ble_eq_true rfl, Nat.le_of_ble_eq_true rfl⟩) hK hE hB hw (by omega) c_0 rfl rfl rfl rfl hl.1 (Nat.le_of_ble_eq_true rfl) ⟨Nat.zero_le _, Nat.zero_le _⟩ dX5_about_2 (fun r_2 f_1 H locs hp hw => ?_)
  obtain ⟨er, hp⟩ := hp
  rw [← er]
  rw [← hp] at hw
  refine lv_if_ne (tgt := 10) hx hb dX5_about_5 (by decide) (fun _ => ?_) (fun h => absurd h (by decide))
  refine lv_aload_n hx hb dX5_about_10 rfl (lv_at hl 0 rfl) ?_
  refine x_get (ci := 6) (C := RX5) (T := TX5) (n := 13) (ref := RX5) hx hb hts hin_6 hown hK hw 0 (by omega) c_0 rfl 6 (by decide) hf_49 (fun _ h => h) rfl dX5_about_11 ?_
  refine lv_iload_n hx hb dX5_about_14 rfl (lv_at hl 1 rfl) ?_
  refine x_aald (j := i) (a := ad (10 + 4 * i)) hx hb hK hw 9 3 (by omega) c_9 rfl rfl (by omega) (by decide) rfl dX5_about_15 ?_
  refine lv_astore_n (lv' := [(3, .ref (ad (10 + 4 * i))), (0, .ref (ad 0)), (1, .int (nI i)), (2, .int (nI 2))]) hx hb dX5_about_16 rfl hl (by decide) rfl (fun ls hl => ?_)
  refine lv_iload_n hx hb dX5_about_17 rfl (lv_at hl 3 rfl) ?_
  refine lv_tableIn (off := 43) (tgt := 61) hx hb dX5_about_18 (by decide) (by decide) (by decide) (by decide) ?_
  refine lv_aload_n hx hb dX5_about_61 rfl (lv_at hl 0 rfl) ?_
  have c_10_4_i : f (10 + 4 * i) = .inr (1, [.ref (ad (11 + 4 * i)), .ref (ad (13 + 4 * i)), .int (g 7 i), .int (g 8 i), .int (g 9 i), .int (g 10 i), .int (g 11 i), .int (g 12 i)]) := (F_kf i (by omega))
  refine x_getN (ci := 1) (C := RX0) (T := TX0) (n := 8) (ref := RX0) hx hb hts hin_1 hown hK hw (10 + 4 * i) (by omega) c_10_4_i rfl 5 (by decide) (hE.1 (176, "nextDay", "I") (by decide)) (fun _ h => h) rfl dX5_about_62 ?_
  have hRz : RepX ca ad n g z zn tb f := ⟨c_0,
        c_1,
        c_2,
        c_3,
        c_4,
        c_5,
        c_6,
        c_7,
        c_8,
        c_9,
        c_90,
        c_91,
        c_92,
        c_93,
        c_94,
        c_95,
        c_96,
        c_97,
        c_98,
        c_99,
        c_300,
        c_301,
        (fun i9 hi9 => by exact F_kf i9 hi9),
        (fun i9 hi9 => by exact F_oc i9 hi9),
        (fun i9 hi9 => by exact F_va i9 hi9),
        (fun i9 hi9 => by exact F_lw i9 hi9),
        (fun i9 hi9 => by exact F_M i9 hi9), hzn, hT⟩
  exact x_iret hx hb hr hlocks hw ⟨rfl, z, zn, hRz, (fun _ _ => rfl)⟩ dX5_about_65

set_option maxHeartbeats 4000000 in
set_option maxRecDepth 100000 in
theorem k_X5_about_w3 (l : Launch) (D : va_G) (ca : Nat → ClassId) (N : Nat) (ad : Nat → Nat) (B tR tK : Nat) (f : Nat → va_E) (dd : xD N ad B) (hN : 302 ≤ N) (n : Nat → Nat) (g : Nat → Nat → Int32) (z : Nat → Nat → Int32) (zn : Nat) (tb : Nat → Int32) (hR : RepX ca ad n g z zn tb f) (i : Nat) (h2 : n 2 ≤ 20) (hi : i < n 2) : xMi l yX5_about wsX5_about rmX5_about [.ref (ad 0), .int (nI i), .int (nI 3)] D ca N ad B tR tK f (fun r u => g 12 i = r ∧ ∃ (z1 : Nat → Nat → Int32) (zn1 : Nat), RepX ca ad n g z1 zn1 tb u ∧ ∀ y, 302 ≤ y → u y = f y) := by
  refine x_open (cc := cX5_about) (maxL := 4) (ret := (some .int)) (by decide) rfl (Nat.le_of_ble_eq_true rfl) ?_
  intro p e s m below meth c ls hx hb hml hown hts hr hlocks hnm hB hK hE hw hl
  have hown : s.vm.findClass RX5 = some m.cls := hown
  have hl : lv_has ls 4 [(0, .ref (ad 0)), (1, .int (nI i)), (2, .int (nI 3))] := hl
  obtain ⟨c_0, c_1, c_2, c_3, c_4, c_5, c_6, c_7, c_8, c_9, c_90, c_91, c_92, c_93, c_94, c_95, c_96, c_97, c_98, c_99, c_300, c_301, F_kf, F_oc, F_va, F_lw, F_M, hzn, hT⟩ := hR
  have hin_6 : ∀ w ∈ u_ws RX5 TX5 13, w ∈ wsX5_about := by decide +kernel
  have hf_49 := hts (.fieldLink RX5 49 "FixityRows" "files" "[LFixityRows$KeptFile;") (by decide +kernel)
  have hin_1 : ∀ w ∈ u_ws RX0 TX0 8, w ∈ wsX5_about := by decide +kernel
  have b_0 := c_0
  have b_1 := c_1
  have b_2 := c_2
  have b_3 := c_3
  have b_4 := c_4
  have b_5 := c_5
  have b_6 := c_6
  have b_7 := c_7
  have b_8 := c_8
  have b_9 := c_9
  have b_90 := c_90
  have b_91 := c_91
  have b_92 := c_92
  have b_93 := c_93
  have b_94 := c_94
  have b_95 := c_95
  have b_96 := c_96
  have b_97 := c_97
  have b_98 := c_98
  have b_99 := c_99
  have b_300 := c_300
  have b_301 := c_301
  refine lv_aload_n hx hb dX5_about_0 rfl (lv_at hl 0 rfl) ?_
  refine lv_iload_n hx hb dX5_about_1 rfl (lv_at hl 1 rfl) ?_
  have hRk : RepX ca ad n g z zn tb f := ⟨c_0,
        c_1,
        c_2,
        c_3,
        c_4,
        c_5,
        c_6,
        c_7,
        c_8,
        c_9,
        c_90,
        c_91,
        c_92,
        c_93,
        c_94,
        c_95,
        c_96,
        c_97,
        c_98,
        c_99,
        c_300,
        c_301,
        (fun i9 hi9 => by exact F_kf i9 hi9),
        (fun i9 hi9 => by exact F_oc i9 hi9),
        (fun i9 hi9 => by exact F_va i9 hi9),
        (fun i9 hi9 => by exact F_lw i9 hi9),
        (fun i9 hi9 => by exact F_M i9 hi9), hzn, hT⟩
  have hfr : ∀ y, 302 ≤ y → f y = f y := (fun _ _ => rfl)
  refine x_Vi (q := 0) (As := [.int (nI i)]) (rest := []) ⟨hx, hb, hml, hown, hts⟩ (k_X5_isFile_yes l D ca N ad B tR tK f dd hN n g z zn tb hRk i (by omega) (by omega)) (cwV 1 hts gX5_about_X5_isFile rfl rfl rfl (by decide +kernel) ⟨Nat.le_of_ble_eq_true rfl, Nat.le_of_ble_eq_true rfl⟩) hK hE hB hw (by omega) c_0 rfl rfl rfl rfl hl.1 (Nat.le_of_ble_eq_true rfl) ⟨Nat.zero_le _, Nat.zero_le _⟩ dX5_about_2 (fun r_2 f_1 H locs hp hw => ?_)
  obtain ⟨er, hp⟩ := hp
  rw [← er]
  rw [← hp] at hw
  refine lv_if_ne (tgt := 10) hx hb dX5_about_5 (by decide) (fun _ => ?_) (fun h => absurd h (by decide))
  refine lv_aload_n hx hb dX5_about_10 rfl (lv_at hl 0 rfl) ?_
  refine x_get (ci := 6) (C := RX5) (T := TX5) (n := 13) (ref := RX5) hx hb hts hin_6 hown hK hw 0 (by omega) c_0 rfl 6 (by decide) hf_49 (fun _ h => h) rfl dX5_about_11 ?_
  refine lv_iload_n hx hb dX5_about_14 rfl (lv_at hl 1 rfl) ?_
  refine x_aald (j := i) (a := ad (10 + 4 * i)) hx hb hK hw 9 3 (by omega) c_9 rfl rfl (by omega) (by decide) rfl dX5_about_15 ?_
  refine lv_astore_n (lv' := [(3, .ref (ad (10 + 4 * i))), (0, .ref (ad 0)), (1, .int (nI i)), (2, .int (nI 3))]) hx hb dX5_about_16 rfl hl (by decide) rfl (fun ls hl => ?_)
  refine lv_iload_n hx hb dX5_about_17 rfl (lv_at hl 3 rfl) ?_
  refine lv_tableIn (off := 48) (tgt := 66) hx hb dX5_about_18 (by decide) (by decide) (by decide) (by decide) ?_
  refine lv_aload_n hx hb dX5_about_66 rfl (lv_at hl 0 rfl) ?_
  have c_10_4_i : f (10 + 4 * i) = .inr (1, [.ref (ad (11 + 4 * i)), .ref (ad (13 + 4 * i)), .int (g 7 i), .int (g 8 i), .int (g 9 i), .int (g 10 i), .int (g 11 i), .int (g 12 i)]) := (F_kf i (by omega))
  refine x_getN (ci := 1) (C := RX0) (T := TX0) (n := 8) (ref := RX0) hx hb hts hin_1 hown hK hw (10 + 4 * i) (by omega) c_10_4_i rfl 7 (by decide) (hE.1 (170, "mendings", "I") (by decide)) (fun _ h => h) rfl dX5_about_67 ?_
  have hRz : RepX ca ad n g z zn tb f := ⟨c_0,
        c_1,
        c_2,
        c_3,
        c_4,
        c_5,
        c_6,
        c_7,
        c_8,
        c_9,
        c_90,
        c_91,
        c_92,
        c_93,
        c_94,
        c_95,
        c_96,
        c_97,
        c_98,
        c_99,
        c_300,
        c_301,
        (fun i9 hi9 => by exact F_kf i9 hi9),
        (fun i9 hi9 => by exact F_oc i9 hi9),
        (fun i9 hi9 => by exact F_va i9 hi9),
        (fun i9 hi9 => by exact F_lw i9 hi9),
        (fun i9 hi9 => by exact F_M i9 hi9), hzn, hT⟩
  exact x_iret hx hb hr hlocks hw ⟨rfl, z, zn, hRz, (fun _ _ => rfl)⟩ dX5_about_70

set_option maxHeartbeats 4000000 in
set_option maxRecDepth 100000 in
theorem k_X5_about_no (l : Launch) (D : va_G) (ca : Nat → ClassId) (N : Nat) (ad : Nat → Nat) (B tR tK : Nat) (f : Nat → va_E) (dd : xD N ad B) (hN : 302 ≤ N) (n : Nat → Nat) (g : Nat → Nat → Int32) (z : Nat → Nat → Int32) (zn : Nat) (tb : Nat → Int32) (hR : RepX ca ad n g z zn tb f) (i : Nat) (y : Int32) (h2 : n 2 ≤ 20) (hi : i < n 2) (ho : y.toInt < 0 ∨ 3 < y.toInt) : xMi l yX5_about wsX5_about rmX5_about [.ref (ad 0), .int (nI i), .int y] D ca N ad B tR tK f (fun r u => (-1) = r ∧ ∃ (z1 : Nat → Nat → Int32) (zn1 : Nat), RepX ca ad n g z1 zn1 tb u ∧ ∀ y, 302 ≤ y → u y = f y) := by
  refine x_open (cc := cX5_about) (maxL := 4) (ret := (some .int)) (by decide) rfl (Nat.le_of_ble_eq_true rfl) ?_
  intro p e s m below meth c ls hx hb hml hown hts hr hlocks hnm hB hK hE hw hl
  have hown : s.vm.findClass RX5 = some m.cls := hown
  have hl : lv_has ls 4 [(0, .ref (ad 0)), (1, .int (nI i)), (2, .int y)] := hl
  obtain ⟨c_0, c_1, c_2, c_3, c_4, c_5, c_6, c_7, c_8, c_9, c_90, c_91, c_92, c_93, c_94, c_95, c_96, c_97, c_98, c_99, c_300, c_301, F_kf, F_oc, F_va, F_lw, F_M, hzn, hT⟩ := hR
  have hin_6 : ∀ w ∈ u_ws RX5 TX5 13, w ∈ wsX5_about := by decide +kernel
  have hf_49 := hts (.fieldLink RX5 49 "FixityRows" "files" "[LFixityRows$KeptFile;") (by decide +kernel)
  have b_0 := c_0
  have b_1 := c_1
  have b_2 := c_2
  have b_3 := c_3
  have b_4 := c_4
  have b_5 := c_5
  have b_6 := c_6
  have b_7 := c_7
  have b_8 := c_8
  have b_9 := c_9
  have b_90 := c_90
  have b_91 := c_91
  have b_92 := c_92
  have b_93 := c_93
  have b_94 := c_94
  have b_95 := c_95
  have b_96 := c_96
  have b_97 := c_97
  have b_98 := c_98
  have b_99 := c_99
  have b_300 := c_300
  have b_301 := c_301
  refine lv_aload_n hx hb dX5_about_0 rfl (lv_at hl 0 rfl) ?_
  refine lv_iload_n hx hb dX5_about_1 rfl (lv_at hl 1 rfl) ?_
  have hRk : RepX ca ad n g z zn tb f := ⟨c_0,
        c_1,
        c_2,
        c_3,
        c_4,
        c_5,
        c_6,
        c_7,
        c_8,
        c_9,
        c_90,
        c_91,
        c_92,
        c_93,
        c_94,
        c_95,
        c_96,
        c_97,
        c_98,
        c_99,
        c_300,
        c_301,
        (fun i9 hi9 => by exact F_kf i9 hi9),
        (fun i9 hi9 => by exact F_oc i9 hi9),
        (fun i9 hi9 => by exact F_va i9 hi9),
        (fun i9 hi9 => by exact F_lw i9 hi9),
        (fun i9 hi9 => by exact F_M i9 hi9), hzn, hT⟩
  have hfr : ∀ y, 302 ≤ y → f y = f y := (fun _ _ => rfl)
  refine x_Vi (q := 0) (As := [.int (nI i)]) (rest := []) ⟨hx, hb, hml, hown, hts⟩ (k_X5_isFile_yes l D ca N ad B tR tK f dd hN n g z zn tb hRk i (by omega) (by omega)) (cwV 1 hts gX5_about_X5_isFile rfl rfl rfl (by decide +kernel) ⟨Nat.le_of_ble_eq_true rfl, Nat.le_of_ble_eq_true rfl⟩) hK hE hB hw (by omega) c_0 rfl rfl rfl rfl hl.1 (Nat.le_of_ble_eq_true rfl) ⟨Nat.zero_le _, Nat.zero_le _⟩ dX5_about_2 (fun r_2 f_1 H locs hp hw => ?_)
  obtain ⟨er, hp⟩ := hp
  rw [← er]
  rw [← hp] at hw
  refine lv_if_ne (tgt := 10) hx hb dX5_about_5 (by decide) (fun _ => ?_) (fun h => absurd h (by decide))
  refine lv_aload_n hx hb dX5_about_10 rfl (lv_at hl 0 rfl) ?_
  refine x_get (ci := 6) (C := RX5) (T := TX5) (n := 13) (ref := RX5) hx hb hts hin_6 hown hK hw 0 (by omega) c_0 rfl 6 (by decide) hf_49 (fun _ h => h) rfl dX5_about_11 ?_
  refine lv_iload_n hx hb dX5_about_14 rfl (lv_at hl 1 rfl) ?_
  refine x_aald (j := i) (a := ad (10 + 4 * i)) hx hb hK hw 9 3 (by omega) c_9 rfl rfl (by omega) (by decide) rfl dX5_about_15 ?_
  refine lv_astore_n (lv' := [(3, .ref (ad (10 + 4 * i))), (0, .ref (ad 0)), (1, .int (nI i)), (2, .int y)]) hx hb dX5_about_16 rfl hl (by decide) rfl (fun ls hl => ?_)
  refine lv_iload_n hx hb dX5_about_17 rfl (lv_at hl 3 rfl) ?_
  refine lv_tableOut (tgt := 71) hx hb dX5_about_18 ho (by decide) ?_
  refine lv_iconst (v := (-1)) hx hb dX5_about_71 (by decide) ?_
  have hRz : RepX ca ad n g z zn tb f := ⟨c_0,
        c_1,
        c_2,
        c_3,
        c_4,
        c_5,
        c_6,
        c_7,
        c_8,
        c_9,
        c_90,
        c_91,
        c_92,
        c_93,
        c_94,
        c_95,
        c_96,
        c_97,
        c_98,
        c_99,
        c_300,
        c_301,
        (fun i9 hi9 => by exact F_kf i9 hi9),
        (fun i9 hi9 => by exact F_oc i9 hi9),
        (fun i9 hi9 => by exact F_va i9 hi9),
        (fun i9 hi9 => by exact F_lw i9 hi9),
        (fun i9 hi9 => by exact F_M i9 hi9), hzn, hT⟩
  exact x_iret hx hb hr hlocks hw ⟨rfl, z, zn, hRz, (fun _ _ => rfl)⟩ dX5_about_72

abbrev rmX5_row : Room := { frames := 2, cells := 0, slots := 0, locals := 42 }

set_option maxHeartbeats 4000000 in
set_option maxRecDepth 100000 in
theorem k_X5_row_none (l : Launch) (D : va_G) (ca : Nat → ClassId) (N : Nat) (ad : Nat → Nat) (B tR tK : Nat) (f : Nat → va_E) (dd : xD N ad B) (hN : 302 ≤ N) (n : Nat → Nat) (g : Nat → Nat → Int32) (z : Nat → Nat → Int32) (zn : Nat) (tb : Nat → Int32) (hR : RepX ca ad n g z zn tb f) (x : Int32) (y : Int32) (ho : x < 0 ∨ nI (n 5) ≤ x) : xMi l yX5_row wsX5_row rmX5_row [.ref (ad 0), .int x, .int y] D ca N ad B tR tK f (fun r u => (-1) = r ∧ ∃ (z1 : Nat → Nat → Int32) (zn1 : Nat), RepX ca ad n g z1 zn1 tb u ∧ ∀ y, 302 ≤ y → u y = f y) := by
  refine x_open (cc := cX5_row) (maxL := 3) (ret := (some .int)) (by decide) rfl (Nat.le_of_ble_eq_true rfl) ?_
  intro p e s m below meth c ls hx hb hml hown hts hr hlocks hnm hB hK hE hw hl
  have hown : s.vm.findClass RX5 = some m.cls := hown
  have hl : lv_has ls 3 [(0, .ref (ad 0)), (1, .int x), (2, .int y)] := hl
  obtain ⟨c_0, c_1, c_2, c_3, c_4, c_5, c_6, c_7, c_8, c_9, c_90, c_91, c_92, c_93, c_94, c_95, c_96, c_97, c_98, c_99, c_300, c_301, F_kf, F_oc, F_va, F_lw, F_M, hzn, hT⟩ := hR
  have hin_6 : ∀ w ∈ u_ws RX5 TX5 13, w ∈ wsX5_row := by decide +kernel
  have hf_57 := hts (.fieldLink RX5 57 "FixityRows" "rows" "LFixityRows$RowChain;") (by decide +kernel)
  have b_0 := c_0
  have b_1 := c_1
  have b_2 := c_2
  have b_3 := c_3
  have b_4 := c_4
  have b_5 := c_5
  have b_6 := c_6
  have b_7 := c_7
  have b_8 := c_8
  have b_9 := c_9
  have b_90 := c_90
  have b_91 := c_91
  have b_92 := c_92
  have b_93 := c_93
  have b_94 := c_94
  have b_95 := c_95
  have b_96 := c_96
  have b_97 := c_97
  have b_98 := c_98
  have b_99 := c_99
  have b_300 := c_300
  have b_301 := c_301
  refine lv_aload_n hx hb dX5_row_0 rfl (lv_at hl 0 rfl) ?_
  refine x_get (ci := 6) (C := RX5) (T := TX5) (n := 13) (ref := RX5) hx hb hts hin_6 hown hK hw 0 (by omega) c_0 rfl 8 (by decide) hf_57 (fun _ h => h) rfl dX5_row_1 ?_
  refine lv_iload_n hx hb dX5_row_4 rfl (lv_at hl 1 rfl) ?_
  refine x_Vi (q := 90) (As := [.int x]) (rest := []) ⟨hx, hb, hml, hown, hts⟩ (k_X3_has_out l D ca N ad B tR tK f dd (n 5) x c_90  (by omega) ho) (cwV 1 hts gX5_row_X3_has rfl rfl rfl (by decide +kernel) ⟨Nat.le_of_ble_eq_true rfl, Nat.le_of_ble_eq_true rfl⟩) hK hE hB hw (by omega) c_90 rfl rfl rfl rfl hl.1 (Nat.le_of_ble_eq_true rfl) ⟨Nat.zero_le _, Nat.zero_le _⟩ dX5_row_5 (fun r_2 f_1 H locs hp hw => ?_)
  obtain ⟨er, eu⟩ := hp
  rw [← er]
  rw [← eu] at hw
  refine lv_if_ne (tgt := 13) hx hb dX5_row_8 (by decide) (fun h => False.elim (h (by decide))) (fun _ => ?_)
  refine lv_iconst (v := (-1)) hx hb dX5_row_11 (by decide) ?_
  have hRz : RepX ca ad n g z zn tb f := ⟨c_0,
        c_1,
        c_2,
        c_3,
        c_4,
        c_5,
        c_6,
        c_7,
        c_8,
        c_9,
        c_90,
        c_91,
        c_92,
        c_93,
        c_94,
        c_95,
        c_96,
        c_97,
        c_98,
        c_99,
        c_300,
        c_301,
        (fun i9 hi9 => by exact F_kf i9 hi9),
        (fun i9 hi9 => by exact F_oc i9 hi9),
        (fun i9 hi9 => by exact F_va i9 hi9),
        (fun i9 hi9 => by exact F_lw i9 hi9),
        (fun i9 hi9 => by exact F_M i9 hi9), hzn, hT⟩
  exact x_iret hx hb hr hlocks hw ⟨rfl, z, zn, hRz, (fun _ _ => rfl)⟩ dX5_row_12

set_option maxHeartbeats 4000000 in
set_option maxRecDepth 100000 in
theorem k_X5_row_w0 (l : Launch) (D : va_G) (ca : Nat → ClassId) (N : Nat) (ad : Nat → Nat) (B tR tK : Nat) (f : Nat → va_E) (dd : xD N ad B) (hN : 302 ≤ N) (n : Nat → Nat) (g : Nat → Nat → Int32) (z : Nat → Nat → Int32) (zn : Nat) (tb : Nat → Int32) (hR : RepX ca ad n g z zn tb f) (i : Nat) (h5 : n 5 ≤ 200) (hi : i < n 5) : xMi l yX5_row wsX5_row rmX5_row [.ref (ad 0), .int (nI i), .int (nI 0)] D ca N ad B tR tK f (fun r u => g 4 i = r ∧ ∃ (z1 : Nat → Nat → Int32) (zn1 : Nat), RepX ca ad n g z1 zn1 tb u ∧ ∀ y, 302 ≤ y → u y = f y) := by
  refine x_open (cc := cX5_row) (maxL := 3) (ret := (some .int)) (by decide) rfl (Nat.le_of_ble_eq_true rfl) ?_
  intro p e s m below meth c ls hx hb hml hown hts hr hlocks hnm hB hK hE hw hl
  have hown : s.vm.findClass RX5 = some m.cls := hown
  have hl : lv_has ls 3 [(0, .ref (ad 0)), (1, .int (nI i)), (2, .int (nI 0))] := hl
  obtain ⟨c_0, c_1, c_2, c_3, c_4, c_5, c_6, c_7, c_8, c_9, c_90, c_91, c_92, c_93, c_94, c_95, c_96, c_97, c_98, c_99, c_300, c_301, F_kf, F_oc, F_va, F_lw, F_M, hzn, hT⟩ := hR
  have hin_6 : ∀ w ∈ u_ws RX5 TX5 13, w ∈ wsX5_row := by decide +kernel
  have hf_57 := hts (.fieldLink RX5 57 "FixityRows" "rows" "LFixityRows$RowChain;") (by decide +kernel)
  have b_0 := c_0
  have b_1 := c_1
  have b_2 := c_2
  have b_3 := c_3
  have b_4 := c_4
  have b_5 := c_5
  have b_6 := c_6
  have b_7 := c_7
  have b_8 := c_8
  have b_9 := c_9
  have b_90 := c_90
  have b_91 := c_91
  have b_92 := c_92
  have b_93 := c_93
  have b_94 := c_94
  have b_95 := c_95
  have b_96 := c_96
  have b_97 := c_97
  have b_98 := c_98
  have b_99 := c_99
  have b_300 := c_300
  have b_301 := c_301
  refine lv_aload_n hx hb dX5_row_0 rfl (lv_at hl 0 rfl) ?_
  refine x_get (ci := 6) (C := RX5) (T := TX5) (n := 13) (ref := RX5) hx hb hts hin_6 hown hK hw 0 (by omega) c_0 rfl 8 (by decide) hf_57 (fun _ h => h) rfl dX5_row_1 ?_
  refine lv_iload_n hx hb dX5_row_4 rfl (lv_at hl 1 rfl) ?_
  refine x_Vi (q := 90) (As := [.int (nI i)]) (rest := []) ⟨hx, hb, hml, hown, hts⟩ (k_X3_has_in l D ca N ad B tR tK f dd (n 5) i c_90  (by omega) (by omega) (by omega)) (cwV 1 hts gX5_row_X3_has rfl rfl rfl (by decide +kernel) ⟨Nat.le_of_ble_eq_true rfl, Nat.le_of_ble_eq_true rfl⟩) hK hE hB hw (by omega) c_90 rfl rfl rfl rfl hl.1 (Nat.le_of_ble_eq_true rfl) ⟨Nat.zero_le _, Nat.zero_le _⟩ dX5_row_5 (fun r_2 f_1 H locs hp hw => ?_)
  obtain ⟨er, eu⟩ := hp
  rw [← er]
  rw [← eu] at hw
  refine lv_if_ne (tgt := 13) hx hb dX5_row_8 (by decide) (fun _ => ?_) (fun h => absurd h (by decide))
  refine lv_iload_n hx hb dX5_row_13 rfl (lv_at hl 2 rfl) ?_
  refine lv_tableIn (off := 30) (tgt := 44) hx hb dX5_row_14 (by decide) (by decide) (by decide) (by decide) ?_
  refine lv_aload_n hx hb dX5_row_44 rfl (lv_at hl 0 rfl) ?_
  refine x_get (ci := 6) (C := RX5) (T := TX5) (n := 13) (ref := RX5) hx hb hts hin_6 hown hK hw 0 (by omega) c_0 rfl 8 (by decide) hf_57 (fun _ h => h) rfl dX5_row_45 ?_
  refine lv_iload_n hx hb dX5_row_48 rfl (lv_at hl 1 rfl) ?_
  refine x_Vi (q := 90) (As := [.int (nI i)]) (rest := []) ⟨hx, hb, hml, hown, hts⟩ (k_X3_kindOf_in l D ca N ad B tR tK f dd (n 5) i (g 4) c_90 c_96  (by omega) (by omega) (by omega)) (cwV 1 hts gX5_row_X3_kindOf rfl rfl rfl (by decide +kernel) ⟨Nat.le_of_ble_eq_true rfl, Nat.le_of_ble_eq_true rfl⟩) hK hE hB hw (by omega) c_90 rfl rfl rfl rfl hl.1 (Nat.le_of_ble_eq_true rfl) ⟨Nat.zero_le _, Nat.zero_le _⟩ dX5_row_49 (fun r_4 f_3 H locs hp hw => ?_)
  obtain ⟨er, eu⟩ := hp
  rw [← er]
  rw [← eu] at hw
  have hRz : RepX ca ad n g z zn tb f := ⟨c_0,
        c_1,
        c_2,
        c_3,
        c_4,
        c_5,
        c_6,
        c_7,
        c_8,
        c_9,
        c_90,
        c_91,
        c_92,
        c_93,
        c_94,
        c_95,
        c_96,
        c_97,
        c_98,
        c_99,
        c_300,
        c_301,
        (fun i9 hi9 => by exact F_kf i9 hi9),
        (fun i9 hi9 => by exact F_oc i9 hi9),
        (fun i9 hi9 => by exact F_va i9 hi9),
        (fun i9 hi9 => by exact F_lw i9 hi9),
        (fun i9 hi9 => by exact F_M i9 hi9), hzn, hT⟩
  exact x_iret hx hb hr hlocks hw ⟨rfl, z, zn, hRz, (fun _ _ => rfl)⟩ dX5_row_52

set_option maxHeartbeats 4000000 in
set_option maxRecDepth 100000 in
theorem k_X5_row_w1 (l : Launch) (D : va_G) (ca : Nat → ClassId) (N : Nat) (ad : Nat → Nat) (B tR tK : Nat) (f : Nat → va_E) (dd : xD N ad B) (hN : 302 ≤ N) (n : Nat → Nat) (g : Nat → Nat → Int32) (z : Nat → Nat → Int32) (zn : Nat) (tb : Nat → Int32) (hR : RepX ca ad n g z zn tb f) (i : Nat) (h5 : n 5 ≤ 200) (hi : i < n 5) : xMi l yX5_row wsX5_row rmX5_row [.ref (ad 0), .int (nI i), .int (nI 1)] D ca N ad B tR tK f (fun r u => g 5 i = r ∧ ∃ (z1 : Nat → Nat → Int32) (zn1 : Nat), RepX ca ad n g z1 zn1 tb u ∧ ∀ y, 302 ≤ y → u y = f y) := by
  refine x_open (cc := cX5_row) (maxL := 3) (ret := (some .int)) (by decide) rfl (Nat.le_of_ble_eq_true rfl) ?_
  intro p e s m below meth c ls hx hb hml hown hts hr hlocks hnm hB hK hE hw hl
  have hown : s.vm.findClass RX5 = some m.cls := hown
  have hl : lv_has ls 3 [(0, .ref (ad 0)), (1, .int (nI i)), (2, .int (nI 1))] := hl
  obtain ⟨c_0, c_1, c_2, c_3, c_4, c_5, c_6, c_7, c_8, c_9, c_90, c_91, c_92, c_93, c_94, c_95, c_96, c_97, c_98, c_99, c_300, c_301, F_kf, F_oc, F_va, F_lw, F_M, hzn, hT⟩ := hR
  have hin_6 : ∀ w ∈ u_ws RX5 TX5 13, w ∈ wsX5_row := by decide +kernel
  have hf_57 := hts (.fieldLink RX5 57 "FixityRows" "rows" "LFixityRows$RowChain;") (by decide +kernel)
  have b_0 := c_0
  have b_1 := c_1
  have b_2 := c_2
  have b_3 := c_3
  have b_4 := c_4
  have b_5 := c_5
  have b_6 := c_6
  have b_7 := c_7
  have b_8 := c_8
  have b_9 := c_9
  have b_90 := c_90
  have b_91 := c_91
  have b_92 := c_92
  have b_93 := c_93
  have b_94 := c_94
  have b_95 := c_95
  have b_96 := c_96
  have b_97 := c_97
  have b_98 := c_98
  have b_99 := c_99
  have b_300 := c_300
  have b_301 := c_301
  refine lv_aload_n hx hb dX5_row_0 rfl (lv_at hl 0 rfl) ?_
  refine x_get (ci := 6) (C := RX5) (T := TX5) (n := 13) (ref := RX5) hx hb hts hin_6 hown hK hw 0 (by omega) c_0 rfl 8 (by decide) hf_57 (fun _ h => h) rfl dX5_row_1 ?_
  refine lv_iload_n hx hb dX5_row_4 rfl (lv_at hl 1 rfl) ?_
  refine x_Vi (q := 90) (As := [.int (nI i)]) (rest := []) ⟨hx, hb, hml, hown, hts⟩ (k_X3_has_in l D ca N ad B tR tK f dd (n 5) i c_90  (by omega) (by omega) (by omega)) (cwV 1 hts gX5_row_X3_has rfl rfl rfl (by decide +kernel) ⟨Nat.le_of_ble_eq_true rfl, Nat.le_of_ble_eq_true rfl⟩) hK hE hB hw (by omega) c_90 rfl rfl rfl rfl hl.1 (Nat.le_of_ble_eq_true rfl) ⟨Nat.zero_le _, Nat.zero_le _⟩ dX5_row_5 (fun r_2 f_1 H locs hp hw => ?_)
  obtain ⟨er, eu⟩ := hp
  rw [← er]
  rw [← eu] at hw
  refine lv_if_ne (tgt := 13) hx hb dX5_row_8 (by decide) (fun _ => ?_) (fun h => absurd h (by decide))
  refine lv_iload_n hx hb dX5_row_13 rfl (lv_at hl 2 rfl) ?_
  refine lv_tableIn (off := 39) (tgt := 53) hx hb dX5_row_14 (by decide) (by decide) (by decide) (by decide) ?_
  refine lv_aload_n hx hb dX5_row_53 rfl (lv_at hl 0 rfl) ?_
  refine x_get (ci := 6) (C := RX5) (T := TX5) (n := 13) (ref := RX5) hx hb hts hin_6 hown hK hw 0 (by omega) c_0 rfl 8 (by decide) hf_57 (fun _ h => h) rfl dX5_row_54 ?_
  refine lv_iload_n hx hb dX5_row_57 rfl (lv_at hl 1 rfl) ?_
  refine x_Vi (q := 90) (As := [.int (nI i)]) (rest := []) ⟨hx, hb, hml, hown, hts⟩ (k_X3_fileOf_in l D ca N ad B tR tK f dd (n 5) i (g 5) c_90 c_97  (by omega) (by omega) (by omega)) (cwV 1 hts gX5_row_X3_fileOf rfl rfl rfl (by decide +kernel) ⟨Nat.le_of_ble_eq_true rfl, Nat.le_of_ble_eq_true rfl⟩) hK hE hB hw (by omega) c_90 rfl rfl rfl rfl hl.1 (Nat.le_of_ble_eq_true rfl) ⟨Nat.zero_le _, Nat.zero_le _⟩ dX5_row_58 (fun r_4 f_3 H locs hp hw => ?_)
  obtain ⟨er, eu⟩ := hp
  rw [← er]
  rw [← eu] at hw
  have hRz : RepX ca ad n g z zn tb f := ⟨c_0,
        c_1,
        c_2,
        c_3,
        c_4,
        c_5,
        c_6,
        c_7,
        c_8,
        c_9,
        c_90,
        c_91,
        c_92,
        c_93,
        c_94,
        c_95,
        c_96,
        c_97,
        c_98,
        c_99,
        c_300,
        c_301,
        (fun i9 hi9 => by exact F_kf i9 hi9),
        (fun i9 hi9 => by exact F_oc i9 hi9),
        (fun i9 hi9 => by exact F_va i9 hi9),
        (fun i9 hi9 => by exact F_lw i9 hi9),
        (fun i9 hi9 => by exact F_M i9 hi9), hzn, hT⟩
  exact x_iret hx hb hr hlocks hw ⟨rfl, z, zn, hRz, (fun _ _ => rfl)⟩ dX5_row_61

set_option maxHeartbeats 4000000 in
set_option maxRecDepth 100000 in
theorem k_X5_row_w2 (l : Launch) (D : va_G) (ca : Nat → ClassId) (N : Nat) (ad : Nat → Nat) (B tR tK : Nat) (f : Nat → va_E) (dd : xD N ad B) (hN : 302 ≤ N) (n : Nat → Nat) (g : Nat → Nat → Int32) (z : Nat → Nat → Int32) (zn : Nat) (tb : Nat → Int32) (hR : RepX ca ad n g z zn tb f) (i : Nat) (h5 : n 5 ≤ 200) (hi : i < n 5) : xMi l yX5_row wsX5_row rmX5_row [.ref (ad 0), .int (nI i), .int (nI 2)] D ca N ad B tR tK f (fun r u => g 6 i = r ∧ ∃ (z1 : Nat → Nat → Int32) (zn1 : Nat), RepX ca ad n g z1 zn1 tb u ∧ ∀ y, 302 ≤ y → u y = f y) := by
  refine x_open (cc := cX5_row) (maxL := 3) (ret := (some .int)) (by decide) rfl (Nat.le_of_ble_eq_true rfl) ?_
  intro p e s m below meth c ls hx hb hml hown hts hr hlocks hnm hB hK hE hw hl
  have hown : s.vm.findClass RX5 = some m.cls := hown
  have hl : lv_has ls 3 [(0, .ref (ad 0)), (1, .int (nI i)), (2, .int (nI 2))] := hl
  obtain ⟨c_0, c_1, c_2, c_3, c_4, c_5, c_6, c_7, c_8, c_9, c_90, c_91, c_92, c_93, c_94, c_95, c_96, c_97, c_98, c_99, c_300, c_301, F_kf, F_oc, F_va, F_lw, F_M, hzn, hT⟩ := hR
  have hin_6 : ∀ w ∈ u_ws RX5 TX5 13, w ∈ wsX5_row := by decide +kernel
  have hf_57 := hts (.fieldLink RX5 57 "FixityRows" "rows" "LFixityRows$RowChain;") (by decide +kernel)
  have b_0 := c_0
  have b_1 := c_1
  have b_2 := c_2
  have b_3 := c_3
  have b_4 := c_4
  have b_5 := c_5
  have b_6 := c_6
  have b_7 := c_7
  have b_8 := c_8
  have b_9 := c_9
  have b_90 := c_90
  have b_91 := c_91
  have b_92 := c_92
  have b_93 := c_93
  have b_94 := c_94
  have b_95 := c_95
  have b_96 := c_96
  have b_97 := c_97
  have b_98 := c_98
  have b_99 := c_99
  have b_300 := c_300
  have b_301 := c_301
  refine lv_aload_n hx hb dX5_row_0 rfl (lv_at hl 0 rfl) ?_
  refine x_get (ci := 6) (C := RX5) (T := TX5) (n := 13) (ref := RX5) hx hb hts hin_6 hown hK hw 0 (by omega) c_0 rfl 8 (by decide) hf_57 (fun _ h => h) rfl dX5_row_1 ?_
  refine lv_iload_n hx hb dX5_row_4 rfl (lv_at hl 1 rfl) ?_
  refine x_Vi (q := 90) (As := [.int (nI i)]) (rest := []) ⟨hx, hb, hml, hown, hts⟩ (k_X3_has_in l D ca N ad B tR tK f dd (n 5) i c_90  (by omega) (by omega) (by omega)) (cwV 1 hts gX5_row_X3_has rfl rfl rfl (by decide +kernel) ⟨Nat.le_of_ble_eq_true rfl, Nat.le_of_ble_eq_true rfl⟩) hK hE hB hw (by omega) c_90 rfl rfl rfl rfl hl.1 (Nat.le_of_ble_eq_true rfl) ⟨Nat.zero_le _, Nat.zero_le _⟩ dX5_row_5 (fun r_2 f_1 H locs hp hw => ?_)
  obtain ⟨er, eu⟩ := hp
  rw [← er]
  rw [← eu] at hw
  refine lv_if_ne (tgt := 13) hx hb dX5_row_8 (by decide) (fun _ => ?_) (fun h => absurd h (by decide))
  refine lv_iload_n hx hb dX5_row_13 rfl (lv_at hl 2 rfl) ?_
  refine lv_tableIn (off := 48) (tgt := 62) hx hb dX5_row_14 (by decide) (by decide) (by decide) (by decide) ?_
  refine lv_aload_n hx hb dX5_row_62 rfl (lv_at hl 0 rfl) ?_
  refine x_get (ci := 6) (C := RX5) (T := TX5) (n := 13) (ref := RX5) hx hb hts hin_6 hown hK hw 0 (by omega) c_0 rfl 8 (by decide) hf_57 (fun _ h => h) rfl dX5_row_63 ?_
  refine lv_iload_n hx hb dX5_row_66 rfl (lv_at hl 1 rfl) ?_
  refine x_Vi (q := 90) (As := [.int (nI i)]) (rest := []) ⟨hx, hb, hml, hown, hts⟩ (k_X3_dayOf_in l D ca N ad B tR tK f dd (n 5) i (g 6) c_90 c_98  (by omega) (by omega) (by omega)) (cwV 1 hts gX5_row_X3_dayOf rfl rfl rfl (by decide +kernel) ⟨Nat.le_of_ble_eq_true rfl, Nat.le_of_ble_eq_true rfl⟩) hK hE hB hw (by omega) c_90 rfl rfl rfl rfl hl.1 (Nat.le_of_ble_eq_true rfl) ⟨Nat.zero_le _, Nat.zero_le _⟩ dX5_row_67 (fun r_4 f_3 H locs hp hw => ?_)
  obtain ⟨er, eu⟩ := hp
  rw [← er]
  rw [← eu] at hw
  have hRz : RepX ca ad n g z zn tb f := ⟨c_0,
        c_1,
        c_2,
        c_3,
        c_4,
        c_5,
        c_6,
        c_7,
        c_8,
        c_9,
        c_90,
        c_91,
        c_92,
        c_93,
        c_94,
        c_95,
        c_96,
        c_97,
        c_98,
        c_99,
        c_300,
        c_301,
        (fun i9 hi9 => by exact F_kf i9 hi9),
        (fun i9 hi9 => by exact F_oc i9 hi9),
        (fun i9 hi9 => by exact F_va i9 hi9),
        (fun i9 hi9 => by exact F_lw i9 hi9),
        (fun i9 hi9 => by exact F_M i9 hi9), hzn, hT⟩
  exact x_iret hx hb hr hlocks hw ⟨rfl, z, zn, hRz, (fun _ _ => rfl)⟩ dX5_row_70

set_option maxHeartbeats 4000000 in
set_option maxRecDepth 100000 in
theorem k_X5_row_w3 (l : Launch) (D : va_G) (ca : Nat → ClassId) (N : Nat) (ad : Nat → Nat) (B tR tK : Nat) (f : Nat → va_E) (dd : xD N ad B) (hN : 302 ≤ N) (n : Nat → Nat) (g : Nat → Nat → Int32) (z : Nat → Nat → Int32) (zn : Nat) (tb : Nat → Int32) (hR : RepX ca ad n g z zn tb f) (i : Nat) (h5 : n 5 ≤ 200) (hi : i < n 5) : xMi l yX5_row wsX5_row rmX5_row [.ref (ad 0), .int (nI i), .int (nI 3)] D ca N ad B tR tK f (fun r u => g (1000 + i) 0 = r ∧ ∃ (z1 : Nat → Nat → Int32) (zn1 : Nat), RepX ca ad n g z1 zn1 tb u ∧ ∀ y, 302 ≤ y → u y = f y) := by
  refine x_open (cc := cX5_row) (maxL := 3) (ret := (some .int)) (by decide) rfl (Nat.le_of_ble_eq_true rfl) ?_
  intro p e s m below meth c ls hx hb hml hown hts hr hlocks hnm hB hK hE hw hl
  have hown : s.vm.findClass RX5 = some m.cls := hown
  have hl : lv_has ls 3 [(0, .ref (ad 0)), (1, .int (nI i)), (2, .int (nI 3))] := hl
  obtain ⟨c_0, c_1, c_2, c_3, c_4, c_5, c_6, c_7, c_8, c_9, c_90, c_91, c_92, c_93, c_94, c_95, c_96, c_97, c_98, c_99, c_300, c_301, F_kf, F_oc, F_va, F_lw, F_M, hzn, hT⟩ := hR
  have hin_6 : ∀ w ∈ u_ws RX5 TX5 13, w ∈ wsX5_row := by decide +kernel
  have hf_57 := hts (.fieldLink RX5 57 "FixityRows" "rows" "LFixityRows$RowChain;") (by decide +kernel)
  have b_0 := c_0
  have b_1 := c_1
  have b_2 := c_2
  have b_3 := c_3
  have b_4 := c_4
  have b_5 := c_5
  have b_6 := c_6
  have b_7 := c_7
  have b_8 := c_8
  have b_9 := c_9
  have b_90 := c_90
  have b_91 := c_91
  have b_92 := c_92
  have b_93 := c_93
  have b_94 := c_94
  have b_95 := c_95
  have b_96 := c_96
  have b_97 := c_97
  have b_98 := c_98
  have b_99 := c_99
  have b_300 := c_300
  have b_301 := c_301
  refine lv_aload_n hx hb dX5_row_0 rfl (lv_at hl 0 rfl) ?_
  refine x_get (ci := 6) (C := RX5) (T := TX5) (n := 13) (ref := RX5) hx hb hts hin_6 hown hK hw 0 (by omega) c_0 rfl 8 (by decide) hf_57 (fun _ h => h) rfl dX5_row_1 ?_
  refine lv_iload_n hx hb dX5_row_4 rfl (lv_at hl 1 rfl) ?_
  refine x_Vi (q := 90) (As := [.int (nI i)]) (rest := []) ⟨hx, hb, hml, hown, hts⟩ (k_X3_has_in l D ca N ad B tR tK f dd (n 5) i c_90  (by omega) (by omega) (by omega)) (cwV 1 hts gX5_row_X3_has rfl rfl rfl (by decide +kernel) ⟨Nat.le_of_ble_eq_true rfl, Nat.le_of_ble_eq_true rfl⟩) hK hE hB hw (by omega) c_90 rfl rfl rfl rfl hl.1 (Nat.le_of_ble_eq_true rfl) ⟨Nat.zero_le _, Nat.zero_le _⟩ dX5_row_5 (fun r_2 f_1 H locs hp hw => ?_)
  obtain ⟨er, eu⟩ := hp
  rw [← er]
  rw [← eu] at hw
  refine lv_if_ne (tgt := 13) hx hb dX5_row_8 (by decide) (fun _ => ?_) (fun h => absurd h (by decide))
  refine lv_iload_n hx hb dX5_row_13 rfl (lv_at hl 2 rfl) ?_
  refine lv_tableIn (off := 57) (tgt := 71) hx hb dX5_row_14 (by decide) (by decide) (by decide) (by decide) ?_
  refine lv_aload_n hx hb dX5_row_71 rfl (lv_at hl 0 rfl) ?_
  refine x_get (ci := 6) (C := RX5) (T := TX5) (n := 13) (ref := RX5) hx hb hts hin_6 hown hK hw 0 (by omega) c_0 rfl 8 (by decide) hf_57 (fun _ h => h) rfl dX5_row_72 ?_
  refine lv_iload_n hx hb dX5_row_75 rfl (lv_at hl 1 rfl) ?_
  refine x_Vi (q := 90) (As := [.int (nI i)]) (rest := []) ⟨hx, hb, hml, hown, hts⟩ (k_X3_firstWordOf_in l D ca N ad B tR tK f dd (n 5) i (fun i8 => g (1000 + i8)) c_90 c_99 F_M (by omega) (by omega) (by omega)) (cwV 1 hts gX5_row_X3_firstWordOf rfl rfl rfl (by decide +kernel) ⟨Nat.le_of_ble_eq_true rfl, Nat.le_of_ble_eq_true rfl⟩) hK hE hB hw (by omega) c_90 rfl rfl rfl rfl hl.1 (Nat.le_of_ble_eq_true rfl) ⟨Nat.zero_le _, Nat.zero_le _⟩ dX5_row_76 (fun r_4 f_3 H locs hp hw => ?_)
  obtain ⟨er, eu⟩ := hp
  rw [← er]
  rw [← eu] at hw
  have hRz : RepX ca ad n g z zn tb f := ⟨c_0,
        c_1,
        c_2,
        c_3,
        c_4,
        c_5,
        c_6,
        c_7,
        c_8,
        c_9,
        c_90,
        c_91,
        c_92,
        c_93,
        c_94,
        c_95,
        c_96,
        c_97,
        c_98,
        c_99,
        c_300,
        c_301,
        (fun i9 hi9 => by exact F_kf i9 hi9),
        (fun i9 hi9 => by exact F_oc i9 hi9),
        (fun i9 hi9 => by exact F_va i9 hi9),
        (fun i9 hi9 => by exact F_lw i9 hi9),
        (fun i9 hi9 => by exact F_M i9 hi9), hzn, hT⟩
  exact x_iret hx hb hr hlocks hw ⟨rfl, z, zn, hRz, (fun _ _ => rfl)⟩ dX5_row_79

set_option maxHeartbeats 4000000 in
set_option maxRecDepth 100000 in
theorem k_X5_row_no (l : Launch) (D : va_G) (ca : Nat → ClassId) (N : Nat) (ad : Nat → Nat) (B tR tK : Nat) (f : Nat → va_E) (dd : xD N ad B) (hN : 302 ≤ N) (n : Nat → Nat) (g : Nat → Nat → Int32) (z : Nat → Nat → Int32) (zn : Nat) (tb : Nat → Int32) (hR : RepX ca ad n g z zn tb f) (i : Nat) (y : Int32) (h5 : n 5 ≤ 200) (hi : i < n 5) (ho : y.toInt < 0 ∨ 3 < y.toInt) : xMi l yX5_row wsX5_row rmX5_row [.ref (ad 0), .int (nI i), .int y] D ca N ad B tR tK f (fun r u => (-1) = r ∧ ∃ (z1 : Nat → Nat → Int32) (zn1 : Nat), RepX ca ad n g z1 zn1 tb u ∧ ∀ y, 302 ≤ y → u y = f y) := by
  refine x_open (cc := cX5_row) (maxL := 3) (ret := (some .int)) (by decide) rfl (Nat.le_of_ble_eq_true rfl) ?_
  intro p e s m below meth c ls hx hb hml hown hts hr hlocks hnm hB hK hE hw hl
  have hown : s.vm.findClass RX5 = some m.cls := hown
  have hl : lv_has ls 3 [(0, .ref (ad 0)), (1, .int (nI i)), (2, .int y)] := hl
  obtain ⟨c_0, c_1, c_2, c_3, c_4, c_5, c_6, c_7, c_8, c_9, c_90, c_91, c_92, c_93, c_94, c_95, c_96, c_97, c_98, c_99, c_300, c_301, F_kf, F_oc, F_va, F_lw, F_M, hzn, hT⟩ := hR
  have hin_6 : ∀ w ∈ u_ws RX5 TX5 13, w ∈ wsX5_row := by decide +kernel
  have hf_57 := hts (.fieldLink RX5 57 "FixityRows" "rows" "LFixityRows$RowChain;") (by decide +kernel)
  have b_0 := c_0
  have b_1 := c_1
  have b_2 := c_2
  have b_3 := c_3
  have b_4 := c_4
  have b_5 := c_5
  have b_6 := c_6
  have b_7 := c_7
  have b_8 := c_8
  have b_9 := c_9
  have b_90 := c_90
  have b_91 := c_91
  have b_92 := c_92
  have b_93 := c_93
  have b_94 := c_94
  have b_95 := c_95
  have b_96 := c_96
  have b_97 := c_97
  have b_98 := c_98
  have b_99 := c_99
  have b_300 := c_300
  have b_301 := c_301
  refine lv_aload_n hx hb dX5_row_0 rfl (lv_at hl 0 rfl) ?_
  refine x_get (ci := 6) (C := RX5) (T := TX5) (n := 13) (ref := RX5) hx hb hts hin_6 hown hK hw 0 (by omega) c_0 rfl 8 (by decide) hf_57 (fun _ h => h) rfl dX5_row_1 ?_
  refine lv_iload_n hx hb dX5_row_4 rfl (lv_at hl 1 rfl) ?_
  refine x_Vi (q := 90) (As := [.int (nI i)]) (rest := []) ⟨hx, hb, hml, hown, hts⟩ (k_X3_has_in l D ca N ad B tR tK f dd (n 5) i c_90  (by omega) (by omega) (by omega)) (cwV 1 hts gX5_row_X3_has rfl rfl rfl (by decide +kernel) ⟨Nat.le_of_ble_eq_true rfl, Nat.le_of_ble_eq_true rfl⟩) hK hE hB hw (by omega) c_90 rfl rfl rfl rfl hl.1 (Nat.le_of_ble_eq_true rfl) ⟨Nat.zero_le _, Nat.zero_le _⟩ dX5_row_5 (fun r_2 f_1 H locs hp hw => ?_)
  obtain ⟨er, eu⟩ := hp
  rw [← er]
  rw [← eu] at hw
  refine lv_if_ne (tgt := 13) hx hb dX5_row_8 (by decide) (fun _ => ?_) (fun h => absurd h (by decide))
  refine lv_iload_n hx hb dX5_row_13 rfl (lv_at hl 2 rfl) ?_
  refine lv_tableOut (tgt := 80) hx hb dX5_row_14 ho (by decide) ?_
  refine lv_iconst (v := (-1)) hx hb dX5_row_80 (by decide) ?_
  have hRz : RepX ca ad n g z zn tb f := ⟨c_0,
        c_1,
        c_2,
        c_3,
        c_4,
        c_5,
        c_6,
        c_7,
        c_8,
        c_9,
        c_90,
        c_91,
        c_92,
        c_93,
        c_94,
        c_95,
        c_96,
        c_97,
        c_98,
        c_99,
        c_300,
        c_301,
        (fun i9 hi9 => by exact F_kf i9 hi9),
        (fun i9 hi9 => by exact F_oc i9 hi9),
        (fun i9 hi9 => by exact F_va i9 hi9),
        (fun i9 hi9 => by exact F_lw i9 hi9),
        (fun i9 hi9 => by exact F_M i9 hi9), hzn, hT⟩
  exact x_iret hx hb hr hlocks hw ⟨rfl, z, zn, hRz, (fun _ _ => rfl)⟩ dX5_row_81

abbrev rmX5_spoil : Room := { frames := 2, cells := 0, slots := 0, locals := 44 }

set_option maxHeartbeats 4000000 in
set_option maxRecDepth 100000 in
theorem k_X5_spoil_none (l : Launch) (D : va_G) (ca : Nat → ClassId) (N : Nat) (ad : Nat → Nat) (B tR tK : Nat) (f : Nat → va_E) (dd : xD N ad B) (hN : 302 ≤ N) (n : Nat → Nat) (g : Nat → Nat → Int32) (z : Nat → Nat → Int32) (zn : Nat) (tb : Nat → Int32) (hR : RepX ca ad n g z zn tb f) (x : Int32) (y : Int32) (ho : x < 0 ∨ nI (n 5) ≤ x) : xMi l yX5_spoil wsX5_spoil rmX5_spoil [.ref (ad 0), .int x, .int y] D ca N ad B tR tK f (fun r u => (-1) = r ∧ ∃ (z1 : Nat → Nat → Int32) (zn1 : Nat), RepX ca ad n g z1 zn1 tb u ∧ ∀ y, 302 ≤ y → u y = f y) := by
  refine x_open (cc := cX5_spoil) (maxL := 3) (ret := (some .int)) (by decide) rfl (Nat.le_of_ble_eq_true rfl) ?_
  intro p e s m below meth c ls hx hb hml hown hts hr hlocks hnm hB hK hE hw hl
  have hown : s.vm.findClass RX5 = some m.cls := hown
  have hl : lv_has ls 3 [(0, .ref (ad 0)), (1, .int x), (2, .int y)] := hl
  obtain ⟨c_0, c_1, c_2, c_3, c_4, c_5, c_6, c_7, c_8, c_9, c_90, c_91, c_92, c_93, c_94, c_95, c_96, c_97, c_98, c_99, c_300, c_301, F_kf, F_oc, F_va, F_lw, F_M, hzn, hT⟩ := hR
  have hin_6 : ∀ w ∈ u_ws RX5 TX5 13, w ∈ wsX5_spoil := by decide +kernel
  have hf_57 := hts (.fieldLink RX5 57 "FixityRows" "rows" "LFixityRows$RowChain;") (by decide +kernel)
  have b_0 := c_0
  have b_1 := c_1
  have b_2 := c_2
  have b_3 := c_3
  have b_4 := c_4
  have b_5 := c_5
  have b_6 := c_6
  have b_7 := c_7
  have b_8 := c_8
  have b_9 := c_9
  have b_90 := c_90
  have b_91 := c_91
  have b_92 := c_92
  have b_93 := c_93
  have b_94 := c_94
  have b_95 := c_95
  have b_96 := c_96
  have b_97 := c_97
  have b_98 := c_98
  have b_99 := c_99
  have b_300 := c_300
  have b_301 := c_301
  refine lv_aload_n hx hb dX5_spoil_0 rfl (lv_at hl 0 rfl) ?_
  refine x_get (ci := 6) (C := RX5) (T := TX5) (n := 13) (ref := RX5) hx hb hts hin_6 hown hK hw 0 (by omega) c_0 rfl 8 (by decide) hf_57 (fun _ h => h) rfl dX5_spoil_1 ?_
  refine lv_iload_n hx hb dX5_spoil_4 rfl (lv_at hl 1 rfl) ?_
  refine x_Vi (q := 90) (As := [.int x]) (rest := []) ⟨hx, hb, hml, hown, hts⟩ (k_X3_has_out l D ca N ad B tR tK f dd (n 5) x c_90  (by omega) ho) (cwV 1 hts gX5_spoil_X3_has rfl rfl rfl (by decide +kernel) ⟨Nat.le_of_ble_eq_true rfl, Nat.le_of_ble_eq_true rfl⟩) hK hE hB hw (by omega) c_90 rfl rfl rfl rfl hl.1 (Nat.le_of_ble_eq_true rfl) ⟨Nat.zero_le _, Nat.zero_le _⟩ dX5_spoil_5 (fun r_2 f_1 H locs hp hw => ?_)
  obtain ⟨er, eu⟩ := hp
  rw [← er]
  rw [← eu] at hw
  refine lv_if_ne (tgt := 13) hx hb dX5_spoil_8 (by decide) (fun h => False.elim (h (by decide))) (fun _ => ?_)
  refine lv_iconst (v := (-1)) hx hb dX5_spoil_11 (by decide) ?_
  have hRz : RepX ca ad n g z zn tb f := ⟨c_0,
        c_1,
        c_2,
        c_3,
        c_4,
        c_5,
        c_6,
        c_7,
        c_8,
        c_9,
        c_90,
        c_91,
        c_92,
        c_93,
        c_94,
        c_95,
        c_96,
        c_97,
        c_98,
        c_99,
        c_300,
        c_301,
        (fun i9 hi9 => by exact F_kf i9 hi9),
        (fun i9 hi9 => by exact F_oc i9 hi9),
        (fun i9 hi9 => by exact F_va i9 hi9),
        (fun i9 hi9 => by exact F_lw i9 hi9),
        (fun i9 hi9 => by exact F_M i9 hi9), hzn, hT⟩
  exact x_iret hx hb hr hlocks hw ⟨rfl, z, zn, hRz, (fun _ _ => rfl)⟩ dX5_spoil_12

set_option maxHeartbeats 4000000 in
set_option maxRecDepth 100000 in
theorem k_X5_spoil_gone (l : Launch) (D : va_G) (ca : Nat → ClassId) (N : Nat) (ad : Nat → Nat) (B tR tK : Nat) (f : Nat → va_E) (dd : xD N ad B) (hN : 302 ≤ N) (n : Nat → Nat) (g : Nat → Nat → Int32) (z : Nat → Nat → Int32) (zn : Nat) (tb : Nat → Int32) (hR : RepX ca ad n g z zn tb f) (i : Nat) (h5 : n 5 ≤ 200) (hi : i < n 5) : xMi l yX5_spoil wsX5_spoil rmX5_spoil [.ref (ad 0), .int (nI i), .int (nI 0)] D ca N ad B tR tK f (fun r u => nI 0 = r ∧ ∃ (z1 : Nat → Nat → Int32) (zn1 : Nat), RepX ca ad (va_up n 5 ((n 5) - 1)) (va_up (va_up (va_up (grow g (mrem (fun i8 => g (1000 + i8)) i ((n 5) - 1))) 4 (shl (g 4) i ((n 5) - 1))) 5 (shl (g 5) i ((n 5) - 1))) 6 (shl (g 6) i ((n 5) - 1))) z1 zn1 tb u ∧ ∀ y, 302 ≤ y → u y = f y) := by
  refine x_open (cc := cX5_spoil) (maxL := 3) (ret := (some .int)) (by decide) rfl (Nat.le_of_ble_eq_true rfl) ?_
  intro p e s m below meth c ls hx hb hml hown hts hr hlocks hnm hB hK hE hw hl
  have hown : s.vm.findClass RX5 = some m.cls := hown
  have hl : lv_has ls 3 [(0, .ref (ad 0)), (1, .int (nI i)), (2, .int (nI 0))] := hl
  obtain ⟨c_0, c_1, c_2, c_3, c_4, c_5, c_6, c_7, c_8, c_9, c_90, c_91, c_92, c_93, c_94, c_95, c_96, c_97, c_98, c_99, c_300, c_301, F_kf, F_oc, F_va, F_lw, F_M, hzn, hT⟩ := hR
  have hin_6 : ∀ w ∈ u_ws RX5 TX5 13, w ∈ wsX5_spoil := by decide +kernel
  have hf_57 := hts (.fieldLink RX5 57 "FixityRows" "rows" "LFixityRows$RowChain;") (by decide +kernel)
  have b_0 := c_0
  have b_1 := c_1
  have b_2 := c_2
  have b_3 := c_3
  have b_4 := c_4
  have b_5 := c_5
  have b_6 := c_6
  have b_7 := c_7
  have b_8 := c_8
  have b_9 := c_9
  have b_90 := c_90
  have b_91 := c_91
  have b_92 := c_92
  have b_93 := c_93
  have b_94 := c_94
  have b_95 := c_95
  have b_96 := c_96
  have b_97 := c_97
  have b_98 := c_98
  have b_99 := c_99
  have b_300 := c_300
  have b_301 := c_301
  refine lv_aload_n hx hb dX5_spoil_0 rfl (lv_at hl 0 rfl) ?_
  refine x_get (ci := 6) (C := RX5) (T := TX5) (n := 13) (ref := RX5) hx hb hts hin_6 hown hK hw 0 (by omega) c_0 rfl 8 (by decide) hf_57 (fun _ h => h) rfl dX5_spoil_1 ?_
  refine lv_iload_n hx hb dX5_spoil_4 rfl (lv_at hl 1 rfl) ?_
  refine x_Vi (q := 90) (As := [.int (nI i)]) (rest := []) ⟨hx, hb, hml, hown, hts⟩ (k_X3_has_in l D ca N ad B tR tK f dd (n 5) i c_90  (by omega) (by omega) (by omega)) (cwV 1 hts gX5_spoil_X3_has rfl rfl rfl (by decide +kernel) ⟨Nat.le_of_ble_eq_true rfl, Nat.le_of_ble_eq_true rfl⟩) hK hE hB hw (by omega) c_90 rfl rfl rfl rfl hl.1 (Nat.le_of_ble_eq_true rfl) ⟨Nat.zero_le _, Nat.zero_le _⟩ dX5_spoil_5 (fun r_2 f_1 H locs hp hw => ?_)
  obtain ⟨er, eu⟩ := hp
  rw [← er]
  rw [← eu] at hw
  refine lv_if_ne (tgt := 13) hx hb dX5_spoil_8 (by decide) (fun _ => ?_) (fun h => absurd h (by decide))
  refine lv_iload_n hx hb dX5_spoil_13 rfl (lv_at hl 2 rfl) ?_
  refine lv_if_ne (tgt := 27) hx hb dX5_spoil_14 (by decide) (fun h => False.elim (h (by decide))) (fun _ => ?_)
  refine lv_aload_n hx hb dX5_spoil_17 rfl (lv_at hl 0 rfl) ?_
  refine x_get (ci := 6) (C := RX5) (T := TX5) (n := 13) (ref := RX5) hx hb hts hin_6 hown hK hw 0 (by omega) c_0 rfl 8 (by decide) hf_57 (fun _ h => h) rfl dX5_spoil_18 ?_
  refine lv_iload_n hx hb dX5_spoil_21 rfl (lv_at hl 1 rfl) ?_
  refine x_Vv (q := 90) (As := [.int (nI i)]) (rest := []) ⟨hx, hb, hml, hown, hts⟩ (k_X3_remove_in l D ca N ad B tR tK f dd (n 5) (g 4) (g 5) (g 6) (fun i8 => g (1000 + i8)) i c_90 c_96 c_97 c_98 c_99 F_M (by omega) (by omega) (by omega)) (cwV 1 hts gX5_spoil_X3_remove rfl rfl rfl (by decide +kernel) ⟨Nat.le_of_ble_eq_true rfl, Nat.le_of_ble_eq_true rfl⟩) hK hE hB hw (by omega) c_90 rfl rfl rfl rfl hl.1 (Nat.le_of_ble_eq_true rfl) ⟨Nat.zero_le _, Nat.zero_le _⟩ dX5_spoil_22 (fun f_3 H locs hp hw => ?_)
  have eu := hp
  have ef_3 : f_3 = va_up (va_up (va_up (va_up (vrow ca f (mrem (fun i8 => g (1000 + i8)) i ((n 5) - 1))) 96 (ai (ca 0) 200 (shl (g 4) i ((n 5) - 1)))) 97 (ai (ca 0) 200 (shl (g 5) i ((n 5) - 1)))) 98 (ai (ca 0) 200 (shl (g 6) i ((n 5) - 1)))) 90 (.inr (4, [.ref (ad 91), .ref (ad 94), .ref (ad 96), .ref (ad 97), .ref (ad 98), .ref (ad 99), .int (nI ((n 5) - 1))])) := eu
  have c_96 : f_3 96 = ai (ca 0) 200 (shl (g 4) i ((n 5) - 1)) := by rw [ef_3, va_up_ne _ _ (by decide), va_up_ne _ _ (by decide), va_up_ne _ _ (by decide), va_up_self]
  have c_97 : f_3 97 = ai (ca 0) 200 (shl (g 5) i ((n 5) - 1)) := by rw [ef_3, va_up_ne _ _ (by decide), va_up_ne _ _ (by decide), va_up_self]
  have c_98 : f_3 98 = ai (ca 0) 200 (shl (g 6) i ((n 5) - 1)) := by rw [ef_3, va_up_ne _ _ (by decide), va_up_self]
  have c_90 : f_3 90 = .inr (4, [.ref (ad 91), .ref (ad 94), .ref (ad 96), .ref (ad 97), .ref (ad 98), .ref (ad 99), .int (nI ((n 5) - 1))]) := by rw [ef_3, va_up_self]
  refine lv_iconst (v := nI 0) hx hb dX5_spoil_25 (by decide) ?_
  have c_0 : f_3 0 = .inr (6, [.int (nI (n 0)), .ref (ad 1), .ref (ad 4), .ref (ad 6), .ref (ad 8), .int (nI (n 1)), .ref (ad 9), .int (nI (n 2)), .ref (ad 90), .ref (ad 300), .ref (ad 301), .int (nI (n 3)), .int (g 13 0)]) := by rw [ef_3, va_up_ne _ _ (by decide), va_up_ne _ _ (by decide), va_up_ne _ _ (by decide), va_up_ne _ _ (by decide), vrow_ne _ _ _ (by omega)]; exact c_0
  have c_1 : f_3 1 = .inr (2, [.ref (ad 2), .ref (ad 3)]) := by rw [ef_3, va_up_ne _ _ (by decide), va_up_ne _ _ (by decide), va_up_ne _ _ (by decide), va_up_ne _ _ (by decide), vrow_ne _ _ _ (by omega)]; exact c_1
  have c_2 : f_3 2 = ai (ca 0) 8 (z 0) := by rw [ef_3, va_up_ne _ _ (by decide), va_up_ne _ _ (by decide), va_up_ne _ _ (by decide), va_up_ne _ _ (by decide), vrow_ne _ _ _ (by omega)]; exact c_2
  have c_3 : f_3 3 = ai (ca 0) 64 (z 1) := by rw [ef_3, va_up_ne _ _ (by decide), va_up_ne _ _ (by decide), va_up_ne _ _ (by decide), va_up_ne _ _ (by decide), vrow_ne _ _ _ (by omega)]; exact c_3
  have c_4 : f_3 4 = .inr (5, [.ref (ad 5)]) := by rw [ef_3, va_up_ne _ _ (by decide), va_up_ne _ _ (by decide), va_up_ne _ _ (by decide), va_up_ne _ _ (by decide), vrow_ne _ _ _ (by omega)]; exact c_4
  have c_5 : f_3 5 = ai (ca 0) 256 tb := by rw [ef_3, va_up_ne _ _ (by decide), va_up_ne _ _ (by decide), va_up_ne _ _ (by decide), va_up_ne _ _ (by decide), vrow_ne _ _ _ (by omega)]; exact c_5
  have c_6 : f_3 6 = .inr (3, [.ref (ad 7), .int (nI (n 4))]) := by rw [ef_3, va_up_ne _ _ (by decide), va_up_ne _ _ (by decide), va_up_ne _ _ (by decide), va_up_ne _ _ (by decide), vrow_ne _ _ _ (by omega)]; exact c_6
  have c_7 : f_3 7 = ai (ca 0) 200 (g 0) := by rw [ef_3, va_up_ne _ _ (by decide), va_up_ne _ _ (by decide), va_up_ne _ _ (by decide), va_up_ne _ _ (by decide), vrow_ne _ _ _ (by omega)]; exact c_7
  have c_8 : f_3 8 = ai (ca 0) 8 (g 1) := by rw [ef_3, va_up_ne _ _ (by decide), va_up_ne _ _ (by decide), va_up_ne _ _ (by decide), va_up_ne _ _ (by decide), vrow_ne _ _ _ (by omega)]; exact c_8
  have c_9 : f_3 9 = aq (ca 3) 20 (fun i => some (ad (10 + 4 * i))) := by rw [ef_3, va_up_ne _ _ (by decide), va_up_ne _ _ (by decide), va_up_ne _ _ (by decide), va_up_ne _ _ (by decide), vrow_ne _ _ _ (by omega)]; exact c_9
  have c_91 : f_3 91 = .inr (2, [.ref (ad 92), .ref (ad 93)]) := by rw [ef_3, va_up_ne _ _ (by decide), va_up_ne _ _ (by decide), va_up_ne _ _ (by decide), va_up_ne _ _ (by decide), vrow_ne _ _ _ (by omega)]; exact c_91
  have c_92 : f_3 92 = ai (ca 0) 8 (z 2) := by rw [ef_3, va_up_ne _ _ (by decide), va_up_ne _ _ (by decide), va_up_ne _ _ (by decide), va_up_ne _ _ (by decide), vrow_ne _ _ _ (by omega)]; exact c_92
  have c_93 : f_3 93 = ai (ca 0) 64 (z 3) := by rw [ef_3, va_up_ne _ _ (by decide), va_up_ne _ _ (by decide), va_up_ne _ _ (by decide), va_up_ne _ _ (by decide), vrow_ne _ _ _ (by omega)]; exact c_93
  have c_94 : f_3 94 = .inr (3, [.ref (ad 95), .int (nI zn)]) := by rw [ef_3, va_up_ne _ _ (by decide), va_up_ne _ _ (by decide), va_up_ne _ _ (by decide), va_up_ne _ _ (by decide), vrow_ne _ _ _ (by omega)]; exact c_94
  have c_95 : f_3 95 = ai (ca 0) 200 (z 4) := by rw [ef_3, va_up_ne _ _ (by decide), va_up_ne _ _ (by decide), va_up_ne _ _ (by decide), va_up_ne _ _ (by decide), vrow_ne _ _ _ (by omega)]; exact c_95
  have c_99 : f_3 99 = aq (ca 4) 200 (fun i => some (ad (100 + i))) := by rw [ef_3, va_up_ne _ _ (by decide), va_up_ne _ _ (by decide), va_up_ne _ _ (by decide), va_up_ne _ _ (by decide), vrow_ne _ _ _ (by omega)]; exact c_99
  have c_300 : f_3 300 = ai (ca 0) 20 (g 2) := by rw [ef_3, va_up_ne _ _ (by decide), va_up_ne _ _ (by decide), va_up_ne _ _ (by decide), va_up_ne _ _ (by decide), vrow_ne _ _ _ (by omega)]; exact c_300
  have c_301 : f_3 301 = ai (ca 2) 20 (g 3) := by rw [ef_3, va_up_ne _ _ (by decide), va_up_ne _ _ (by decide), va_up_ne _ _ (by decide), va_up_ne _ _ (by decide), vrow_ne _ _ _ (by omega)]; exact c_301
  have qn_0 : (va_up n 5 ((n 5) - 1)) 0 = n 0 := by rw [va_up_ne _ _ (by decide)]
  have qn_1 : (va_up n 5 ((n 5) - 1)) 1 = n 1 := by rw [va_up_ne _ _ (by decide)]
  have qn_2 : (va_up n 5 ((n 5) - 1)) 2 = n 2 := by rw [va_up_ne _ _ (by decide)]
  have qn_3 : (va_up n 5 ((n 5) - 1)) 3 = n 3 := by rw [va_up_ne _ _ (by decide)]
  have qn_4 : (va_up n 5 ((n 5) - 1)) 4 = n 4 := by rw [va_up_ne _ _ (by decide)]
  have qn_5 : (va_up n 5 ((n 5) - 1)) 5 = (n 5) - 1 := by rw [va_up_self]
  have qg_0 : (va_up (va_up (va_up (grow g (mrem (fun i8 => g (1000 + i8)) i ((n 5) - 1))) 4 (shl (g 4) i ((n 5) - 1))) 5 (shl (g 5) i ((n 5) - 1))) 6 (shl (g 6) i ((n 5) - 1))) 0 = g 0 := by rw [va_up_ne _ _ (by decide), va_up_ne _ _ (by decide), va_up_ne _ _ (by decide), grow_ne _ _ (by omega)]
  have qg_1 : (va_up (va_up (va_up (grow g (mrem (fun i8 => g (1000 + i8)) i ((n 5) - 1))) 4 (shl (g 4) i ((n 5) - 1))) 5 (shl (g 5) i ((n 5) - 1))) 6 (shl (g 6) i ((n 5) - 1))) 1 = g 1 := by rw [va_up_ne _ _ (by decide), va_up_ne _ _ (by decide), va_up_ne _ _ (by decide), grow_ne _ _ (by omega)]
  have qg_2 : (va_up (va_up (va_up (grow g (mrem (fun i8 => g (1000 + i8)) i ((n 5) - 1))) 4 (shl (g 4) i ((n 5) - 1))) 5 (shl (g 5) i ((n 5) - 1))) 6 (shl (g 6) i ((n 5) - 1))) 2 = g 2 := by rw [va_up_ne _ _ (by decide), va_up_ne _ _ (by decide), va_up_ne _ _ (by decide), grow_ne _ _ (by omega)]
  have qg_3 : (va_up (va_up (va_up (grow g (mrem (fun i8 => g (1000 + i8)) i ((n 5) - 1))) 4 (shl (g 4) i ((n 5) - 1))) 5 (shl (g 5) i ((n 5) - 1))) 6 (shl (g 6) i ((n 5) - 1))) 3 = g 3 := by rw [va_up_ne _ _ (by decide), va_up_ne _ _ (by decide), va_up_ne _ _ (by decide), grow_ne _ _ (by omega)]
  have qg_4 : (va_up (va_up (va_up (grow g (mrem (fun i8 => g (1000 + i8)) i ((n 5) - 1))) 4 (shl (g 4) i ((n 5) - 1))) 5 (shl (g 5) i ((n 5) - 1))) 6 (shl (g 6) i ((n 5) - 1))) 4 = shl (g 4) i ((n 5) - 1) := by rw [va_up_ne _ _ (by decide), va_up_ne _ _ (by decide), va_up_self]
  have qg_5 : (va_up (va_up (va_up (grow g (mrem (fun i8 => g (1000 + i8)) i ((n 5) - 1))) 4 (shl (g 4) i ((n 5) - 1))) 5 (shl (g 5) i ((n 5) - 1))) 6 (shl (g 6) i ((n 5) - 1))) 5 = shl (g 5) i ((n 5) - 1) := by rw [va_up_ne _ _ (by decide), va_up_self]
  have qg_6 : (va_up (va_up (va_up (grow g (mrem (fun i8 => g (1000 + i8)) i ((n 5) - 1))) 4 (shl (g 4) i ((n 5) - 1))) 5 (shl (g 5) i ((n 5) - 1))) 6 (shl (g 6) i ((n 5) - 1))) 6 = shl (g 6) i ((n 5) - 1) := by rw [va_up_self]
  have qg_7 : (va_up (va_up (va_up (grow g (mrem (fun i8 => g (1000 + i8)) i ((n 5) - 1))) 4 (shl (g 4) i ((n 5) - 1))) 5 (shl (g 5) i ((n 5) - 1))) 6 (shl (g 6) i ((n 5) - 1))) 7 = g 7 := by rw [va_up_ne _ _ (by decide), va_up_ne _ _ (by decide), va_up_ne _ _ (by decide), grow_ne _ _ (by omega)]
  have qg_8 : (va_up (va_up (va_up (grow g (mrem (fun i8 => g (1000 + i8)) i ((n 5) - 1))) 4 (shl (g 4) i ((n 5) - 1))) 5 (shl (g 5) i ((n 5) - 1))) 6 (shl (g 6) i ((n 5) - 1))) 8 = g 8 := by rw [va_up_ne _ _ (by decide), va_up_ne _ _ (by decide), va_up_ne _ _ (by decide), grow_ne _ _ (by omega)]
  have qg_9 : (va_up (va_up (va_up (grow g (mrem (fun i8 => g (1000 + i8)) i ((n 5) - 1))) 4 (shl (g 4) i ((n 5) - 1))) 5 (shl (g 5) i ((n 5) - 1))) 6 (shl (g 6) i ((n 5) - 1))) 9 = g 9 := by rw [va_up_ne _ _ (by decide), va_up_ne _ _ (by decide), va_up_ne _ _ (by decide), grow_ne _ _ (by omega)]
  have qg_10 : (va_up (va_up (va_up (grow g (mrem (fun i8 => g (1000 + i8)) i ((n 5) - 1))) 4 (shl (g 4) i ((n 5) - 1))) 5 (shl (g 5) i ((n 5) - 1))) 6 (shl (g 6) i ((n 5) - 1))) 10 = g 10 := by rw [va_up_ne _ _ (by decide), va_up_ne _ _ (by decide), va_up_ne _ _ (by decide), grow_ne _ _ (by omega)]
  have qg_11 : (va_up (va_up (va_up (grow g (mrem (fun i8 => g (1000 + i8)) i ((n 5) - 1))) 4 (shl (g 4) i ((n 5) - 1))) 5 (shl (g 5) i ((n 5) - 1))) 6 (shl (g 6) i ((n 5) - 1))) 11 = g 11 := by rw [va_up_ne _ _ (by decide), va_up_ne _ _ (by decide), va_up_ne _ _ (by decide), grow_ne _ _ (by omega)]
  have qg_12 : (va_up (va_up (va_up (grow g (mrem (fun i8 => g (1000 + i8)) i ((n 5) - 1))) 4 (shl (g 4) i ((n 5) - 1))) 5 (shl (g 5) i ((n 5) - 1))) 6 (shl (g 6) i ((n 5) - 1))) 12 = g 12 := by rw [va_up_ne _ _ (by decide), va_up_ne _ _ (by decide), va_up_ne _ _ (by decide), grow_ne _ _ (by omega)]
  have qg_13 : (va_up (va_up (va_up (grow g (mrem (fun i8 => g (1000 + i8)) i ((n 5) - 1))) 4 (shl (g 4) i ((n 5) - 1))) 5 (shl (g 5) i ((n 5) - 1))) 6 (shl (g 6) i ((n 5) - 1))) 13 = g 13 := by rw [va_up_ne _ _ (by decide), va_up_ne _ _ (by decide), va_up_ne _ _ (by decide), grow_ne _ _ (by omega)]
  have hRz : RepX ca ad (va_up n 5 ((n 5) - 1)) (va_up (va_up (va_up (grow g (mrem (fun i8 => g (1000 + i8)) i ((n 5) - 1))) 4 (shl (g 4) i ((n 5) - 1))) 5 (shl (g 5) i ((n 5) - 1))) 6 (shl (g 6) i ((n 5) - 1))) z zn tb f_3 := ⟨(by rw [qn_0, qn_1, qn_2, qn_3, qg_13]; exact c_0),
        c_1,
        c_2,
        c_3,
        c_4,
        c_5,
        (by rw [qn_4]; exact c_6),
        (by rw [qg_0]; exact c_7),
        (by rw [qg_1]; exact c_8),
        c_9,
        (by rw [qn_5]; exact c_90),
        c_91,
        c_92,
        c_93,
        c_94,
        c_95,
        (by rw [qg_4]; exact c_96),
        (by rw [qg_5]; exact c_97),
        (by rw [qg_6]; exact c_98),
        c_99,
        (by rw [qg_2]; exact c_300),
        (by rw [qg_3]; exact c_301),
        (fun i9 hi9 => by rw [qg_7, qg_8, qg_9, qg_10, qg_11, qg_12]; rw [ef_3, va_up_ne _ _ (by omega), va_up_ne _ _ (by omega), va_up_ne _ _ (by omega), va_up_ne _ _ (by omega), vrow_ne _ _ _ (by omega)]; exact F_kf i9 hi9),
        (fun i9 hi9 => by rw [va_up_ne _ _ (by omega)]; rw [ef_3, va_up_ne _ _ (by omega), va_up_ne _ _ (by omega), va_up_ne _ _ (by omega), va_up_ne _ _ (by omega), vrow_ne _ _ _ (by omega)]; exact F_oc i9 hi9),
        (fun i9 hi9 => by rw [va_up_ne _ _ (by omega), va_up_ne _ _ (by omega), va_up_ne _ _ (by omega), grow_ne _ _ (by omega)]; rw [ef_3, va_up_ne _ _ (by omega), va_up_ne _ _ (by omega), va_up_ne _ _ (by omega), va_up_ne _ _ (by omega), vrow_ne _ _ _ (by omega)]; exact F_va i9 hi9),
        (fun i9 hi9 => by rw [va_up_ne _ _ (by omega), va_up_ne _ _ (by omega), va_up_ne _ _ (by omega), grow_ne _ _ (by omega)]; rw [ef_3, va_up_ne _ _ (by omega), va_up_ne _ _ (by omega), va_up_ne _ _ (by omega), va_up_ne _ _ (by omega), vrow_ne _ _ _ (by omega)]; exact F_lw i9 hi9),
        (fun i9 hi9 => by rw [va_up_ne _ _ (by omega), va_up_ne _ _ (by omega), va_up_ne _ _ (by omega), grow_at _ _ hi9]; rw [ef_3, va_up_ne _ _ (by omega), va_up_ne _ _ (by omega), va_up_ne _ _ (by omega), va_up_ne _ _ (by omega)]; exact vrow_at _ _ _ hi9), hzn, hT⟩
  exact x_iret hx hb hr hlocks hw ⟨rfl, z, zn, hRz, (fun y hy => by rw [ef_3, va_up_ne _ _ (by omega), va_up_ne _ _ (by omega), va_up_ne _ _ (by omega), va_up_ne _ _ (by omega), vrow_ne _ _ _ (by omega)])⟩ dX5_spoil_26

set_option maxHeartbeats 4000000 in
set_option maxRecDepth 100000 in
theorem k_X5_spoil_day (l : Launch) (D : va_G) (ca : Nat → ClassId) (N : Nat) (ad : Nat → Nat) (B tR tK : Nat) (f : Nat → va_E) (dd : xD N ad B) (hN : 302 ≤ N) (n : Nat → Nat) (g : Nat → Nat → Int32) (z : Nat → Nat → Int32) (zn : Nat) (tb : Nat → Int32) (hR : RepX ca ad n g z zn tb f) (i : Nat) (y : Int32) (h5 : n 5 ≤ 200) (hi : i < n 5) (ho : ¬ y = 0) : xMi l yX5_spoil wsX5_spoil rmX5_spoil [.ref (ad 0), .int (nI i), .int y] D ca N ad B tR tK f (fun r u => nI 1 = r ∧ ∃ (z1 : Nat → Nat → Int32) (zn1 : Nat), RepX ca ad n (va_up g 6 (upd (g 6) i ((g 6) i ^^^ y))) z1 zn1 tb u ∧ ∀ y, 302 ≤ y → u y = f y) := by
  refine x_open (cc := cX5_spoil) (maxL := 3) (ret := (some .int)) (by decide) rfl (Nat.le_of_ble_eq_true rfl) ?_
  intro p e s m below meth c ls hx hb hml hown hts hr hlocks hnm hB hK hE hw hl
  have hown : s.vm.findClass RX5 = some m.cls := hown
  have hl : lv_has ls 3 [(0, .ref (ad 0)), (1, .int (nI i)), (2, .int y)] := hl
  obtain ⟨c_0, c_1, c_2, c_3, c_4, c_5, c_6, c_7, c_8, c_9, c_90, c_91, c_92, c_93, c_94, c_95, c_96, c_97, c_98, c_99, c_300, c_301, F_kf, F_oc, F_va, F_lw, F_M, hzn, hT⟩ := hR
  have hin_6 : ∀ w ∈ u_ws RX5 TX5 13, w ∈ wsX5_spoil := by decide +kernel
  have hf_57 := hts (.fieldLink RX5 57 "FixityRows" "rows" "LFixityRows$RowChain;") (by decide +kernel)
  have b_0 := c_0
  have b_1 := c_1
  have b_2 := c_2
  have b_3 := c_3
  have b_4 := c_4
  have b_5 := c_5
  have b_6 := c_6
  have b_7 := c_7
  have b_8 := c_8
  have b_9 := c_9
  have b_90 := c_90
  have b_91 := c_91
  have b_92 := c_92
  have b_93 := c_93
  have b_94 := c_94
  have b_95 := c_95
  have b_96 := c_96
  have b_97 := c_97
  have b_98 := c_98
  have b_99 := c_99
  have b_300 := c_300
  have b_301 := c_301
  refine lv_aload_n hx hb dX5_spoil_0 rfl (lv_at hl 0 rfl) ?_
  refine x_get (ci := 6) (C := RX5) (T := TX5) (n := 13) (ref := RX5) hx hb hts hin_6 hown hK hw 0 (by omega) c_0 rfl 8 (by decide) hf_57 (fun _ h => h) rfl dX5_spoil_1 ?_
  refine lv_iload_n hx hb dX5_spoil_4 rfl (lv_at hl 1 rfl) ?_
  refine x_Vi (q := 90) (As := [.int (nI i)]) (rest := []) ⟨hx, hb, hml, hown, hts⟩ (k_X3_has_in l D ca N ad B tR tK f dd (n 5) i c_90  (by omega) (by omega) (by omega)) (cwV 1 hts gX5_spoil_X3_has rfl rfl rfl (by decide +kernel) ⟨Nat.le_of_ble_eq_true rfl, Nat.le_of_ble_eq_true rfl⟩) hK hE hB hw (by omega) c_90 rfl rfl rfl rfl hl.1 (Nat.le_of_ble_eq_true rfl) ⟨Nat.zero_le _, Nat.zero_le _⟩ dX5_spoil_5 (fun r_2 f_1 H locs hp hw => ?_)
  obtain ⟨er, eu⟩ := hp
  rw [← er]
  rw [← eu] at hw
  refine lv_if_ne (tgt := 13) hx hb dX5_spoil_8 (by decide) (fun _ => ?_) (fun h => absurd h (by decide))
  refine lv_iload_n hx hb dX5_spoil_13 rfl (lv_at hl 2 rfl) ?_
  refine lv_if_ne (tgt := 27) hx hb dX5_spoil_14 (by decide) (fun hc_14 => ?_) (fun hc_14 => ?_)
  · refine lv_aload_n hx hb dX5_spoil_27 rfl (lv_at hl 0 rfl) ?_
    refine x_get (ci := 6) (C := RX5) (T := TX5) (n := 13) (ref := RX5) hx hb hts hin_6 hown hK hw 0 (by omega) c_0 rfl 8 (by decide) hf_57 (fun _ h => h) rfl dX5_spoil_28 ?_
    refine lv_iload_n hx hb dX5_spoil_31 rfl (lv_at hl 1 rfl) ?_
    refine lv_iload_n hx hb dX5_spoil_32 rfl (lv_at hl 2 rfl) ?_
    refine x_Vv (q := 90) (As := [.int (nI i), .int y]) (rest := []) ⟨hx, hb, hml, hown, hts⟩ (k_X3_changeDay_in l D ca N ad B tR tK f dd (n 5) i y (g 6) c_90 c_98  (by omega) (by omega) (by omega)) (cwV 2 hts gX5_spoil_X3_changeDay rfl rfl rfl (by decide +kernel) ⟨Nat.le_of_ble_eq_true rfl, Nat.le_of_ble_eq_true rfl⟩) hK hE hB hw (by omega) c_90 rfl rfl rfl rfl hl.1 (Nat.le_of_ble_eq_true rfl) ⟨Nat.zero_le _, Nat.zero_le _⟩ dX5_spoil_33 (fun f_3 H locs hp hw => ?_)
    have eu := hp
    have ef_3 : f_3 = va_up f 98 (ai (ca 0) 200 (upd (g 6) i ((g 6) i ^^^ y))) := eu
    have c_98 : f_3 98 = ai (ca 0) 200 (upd (g 6) i ((g 6) i ^^^ y)) := by rw [ef_3, va_up_self]
    refine lv_iconst (v := nI 1) hx hb dX5_spoil_36 (by decide) ?_
    have c_0 : f_3 0 = .inr (6, [.int (nI (n 0)), .ref (ad 1), .ref (ad 4), .ref (ad 6), .ref (ad 8), .int (nI (n 1)), .ref (ad 9), .int (nI (n 2)), .ref (ad 90), .ref (ad 300), .ref (ad 301), .int (nI (n 3)), .int (g 13 0)]) := by rw [ef_3, va_up_ne _ _ (by decide)]; exact c_0
    have c_1 : f_3 1 = .inr (2, [.ref (ad 2), .ref (ad 3)]) := by rw [ef_3, va_up_ne _ _ (by decide)]; exact c_1
    have c_2 : f_3 2 = ai (ca 0) 8 (z 0) := by rw [ef_3, va_up_ne _ _ (by decide)]; exact c_2
    have c_3 : f_3 3 = ai (ca 0) 64 (z 1) := by rw [ef_3, va_up_ne _ _ (by decide)]; exact c_3
    have c_4 : f_3 4 = .inr (5, [.ref (ad 5)]) := by rw [ef_3, va_up_ne _ _ (by decide)]; exact c_4
    have c_5 : f_3 5 = ai (ca 0) 256 tb := by rw [ef_3, va_up_ne _ _ (by decide)]; exact c_5
    have c_6 : f_3 6 = .inr (3, [.ref (ad 7), .int (nI (n 4))]) := by rw [ef_3, va_up_ne _ _ (by decide)]; exact c_6
    have c_7 : f_3 7 = ai (ca 0) 200 (g 0) := by rw [ef_3, va_up_ne _ _ (by decide)]; exact c_7
    have c_8 : f_3 8 = ai (ca 0) 8 (g 1) := by rw [ef_3, va_up_ne _ _ (by decide)]; exact c_8
    have c_9 : f_3 9 = aq (ca 3) 20 (fun i => some (ad (10 + 4 * i))) := by rw [ef_3, va_up_ne _ _ (by decide)]; exact c_9
    have c_90 : f_3 90 = .inr (4, [.ref (ad 91), .ref (ad 94), .ref (ad 96), .ref (ad 97), .ref (ad 98), .ref (ad 99), .int (nI (n 5))]) := by rw [ef_3, va_up_ne _ _ (by decide)]; exact c_90
    have c_91 : f_3 91 = .inr (2, [.ref (ad 92), .ref (ad 93)]) := by rw [ef_3, va_up_ne _ _ (by decide)]; exact c_91
    have c_92 : f_3 92 = ai (ca 0) 8 (z 2) := by rw [ef_3, va_up_ne _ _ (by decide)]; exact c_92
    have c_93 : f_3 93 = ai (ca 0) 64 (z 3) := by rw [ef_3, va_up_ne _ _ (by decide)]; exact c_93
    have c_94 : f_3 94 = .inr (3, [.ref (ad 95), .int (nI zn)]) := by rw [ef_3, va_up_ne _ _ (by decide)]; exact c_94
    have c_95 : f_3 95 = ai (ca 0) 200 (z 4) := by rw [ef_3, va_up_ne _ _ (by decide)]; exact c_95
    have c_96 : f_3 96 = ai (ca 0) 200 (g 4) := by rw [ef_3, va_up_ne _ _ (by decide)]; exact c_96
    have c_97 : f_3 97 = ai (ca 0) 200 (g 5) := by rw [ef_3, va_up_ne _ _ (by decide)]; exact c_97
    have c_99 : f_3 99 = aq (ca 4) 200 (fun i => some (ad (100 + i))) := by rw [ef_3, va_up_ne _ _ (by decide)]; exact c_99
    have c_300 : f_3 300 = ai (ca 0) 20 (g 2) := by rw [ef_3, va_up_ne _ _ (by decide)]; exact c_300
    have c_301 : f_3 301 = ai (ca 2) 20 (g 3) := by rw [ef_3, va_up_ne _ _ (by decide)]; exact c_301
    have qg_0 : (va_up g 6 (upd (g 6) i ((g 6) i ^^^ y))) 0 = g 0 := by rw [va_up_ne _ _ (by decide)]
    have qg_1 : (va_up g 6 (upd (g 6) i ((g 6) i ^^^ y))) 1 = g 1 := by rw [va_up_ne _ _ (by decide)]
    have qg_2 : (va_up g 6 (upd (g 6) i ((g 6) i ^^^ y))) 2 = g 2 := by rw [va_up_ne _ _ (by decide)]
    have qg_3 : (va_up g 6 (upd (g 6) i ((g 6) i ^^^ y))) 3 = g 3 := by rw [va_up_ne _ _ (by decide)]
    have qg_4 : (va_up g 6 (upd (g 6) i ((g 6) i ^^^ y))) 4 = g 4 := by rw [va_up_ne _ _ (by decide)]
    have qg_5 : (va_up g 6 (upd (g 6) i ((g 6) i ^^^ y))) 5 = g 5 := by rw [va_up_ne _ _ (by decide)]
    have qg_6 : (va_up g 6 (upd (g 6) i ((g 6) i ^^^ y))) 6 = upd (g 6) i ((g 6) i ^^^ y) := by rw [va_up_self]
    have qg_7 : (va_up g 6 (upd (g 6) i ((g 6) i ^^^ y))) 7 = g 7 := by rw [va_up_ne _ _ (by decide)]
    have qg_8 : (va_up g 6 (upd (g 6) i ((g 6) i ^^^ y))) 8 = g 8 := by rw [va_up_ne _ _ (by decide)]
    have qg_9 : (va_up g 6 (upd (g 6) i ((g 6) i ^^^ y))) 9 = g 9 := by rw [va_up_ne _ _ (by decide)]
    have qg_10 : (va_up g 6 (upd (g 6) i ((g 6) i ^^^ y))) 10 = g 10 := by rw [va_up_ne _ _ (by decide)]
    have qg_11 : (va_up g 6 (upd (g 6) i ((g 6) i ^^^ y))) 11 = g 11 := by rw [va_up_ne _ _ (by decide)]
    have qg_12 : (va_up g 6 (upd (g 6) i ((g 6) i ^^^ y))) 12 = g 12 := by rw [va_up_ne _ _ (by decide)]
    have qg_13 : (va_up g 6 (upd (g 6) i ((g 6) i ^^^ y))) 13 = g 13 := by rw [va_up_ne _ _ (by decide)]
    have hRz : RepX ca ad n (va_up g 6 (upd (g 6) i ((g 6) i ^^^ y))) z zn tb f_3 := ⟨(by rw [qg_13]; exact c_0),
          c_1,
          c_2,
          c_3,
          c_4,
          c_5,
          c_6,
          (by rw [qg_0]; exact c_7),
          (by rw [qg_1]; exact c_8),
          c_9,
          c_90,
          c_91,
          c_92,
          c_93,
          c_94,
          c_95,
          (by rw [qg_4]; exact c_96),
          (by rw [qg_5]; exact c_97),
          (by rw [qg_6]; exact c_98),
          c_99,
          (by rw [qg_2]; exact c_300),
          (by rw [qg_3]; exact c_301),
          (fun i9 hi9 => by rw [qg_7, qg_8, qg_9, qg_10, qg_11, qg_12]; rw [ef_3, va_up_ne _ _ (by omega)]; exact F_kf i9 hi9),
          (fun i9 hi9 => by rw [ef_3, va_up_ne _ _ (by omega)]; exact F_oc i9 hi9),
          (fun i9 hi9 => by rw [va_up_ne _ _ (by omega)]; rw [ef_3, va_up_ne _ _ (by omega)]; exact F_va i9 hi9),
          (fun i9 hi9 => by rw [va_up_ne _ _ (by omega)]; rw [ef_3, va_up_ne _ _ (by omega)]; exact F_lw i9 hi9),
          (fun i9 hi9 => by rw [va_up_ne _ _ (by omega)]; rw [ef_3, va_up_ne _ _ (by omega)]; exact F_M i9 hi9), hzn, hT⟩
    exact x_iret hx hb hr hlocks hw ⟨rfl, z, zn, hRz, (fun y hy => by rw [ef_3, va_up_ne _ _ (by omega)])⟩ dX5_spoil_37
  · exact absurd hc_14 ho

abbrev rmX5_chain : Room := { frames := 5, cells := 0, slots := 0, locals := 119 }

set_option maxHeartbeats 4000000 in
set_option maxRecDepth 100000 in
theorem k_X5_chain_none (l : Launch) (D : va_G) (ca : Nat → ClassId) (N : Nat) (ad : Nat → Nat) (B tR tK : Nat) (f : Nat → va_E) (dd : xD N ad B) (hN : 302 ≤ N) (n : Nat → Nat) (g : Nat → Nat → Int32) (z : Nat → Nat → Int32) (zn : Nat) (tb : Nat → Int32) (hR : RepX ca ad n g z zn tb f)  (h5 : n 5 ≤ 200) (hall : ∀ i, i < n 5 → ∀ j, j < 8 → g (1000 + i) j = rowD (prevD (fun i8 => g (1000 + i8)) i) (g 4 i) (g 5 i) (g 6 i) j) : xMi l yX5_chain wsX5_chain rmX5_chain [.ref (ad 0)] D ca N ad B tR tK f (fun r u => (-1) = r ∧ ∃ (z1 : Nat → Nat → Int32) (zn1 : Nat), RepX ca ad n g z1 zn1 tb u ∧ ∀ y, 302 ≤ y → u y = f y) := by
  refine x_open (cc := cX5_chain) (maxL := 1) (ret := (some .int)) (by decide) rfl (Nat.le_of_ble_eq_true rfl) ?_
  intro p e s m below meth c ls hx hb hml hown hts hr hlocks hnm hB hK hE hw hl
  have hown : s.vm.findClass RX5 = some m.cls := hown
  have hl : lv_has ls 1 [(0, .ref (ad 0))] := hl
  obtain ⟨c_0, c_1, c_2, c_3, c_4, c_5, c_6, c_7, c_8, c_9, c_90, c_91, c_92, c_93, c_94, c_95, c_96, c_97, c_98, c_99, c_300, c_301, F_kf, F_oc, F_va, F_lw, F_M, hzn, hT⟩ := hR
  have hin_6 : ∀ w ∈ u_ws RX5 TX5 13, w ∈ wsX5_chain := by decide +kernel
  have hf_57 := hts (.fieldLink RX5 57 "FixityRows" "rows" "LFixityRows$RowChain;") (by decide +kernel)
  have b_0 := c_0
  have b_1 := c_1
  have b_2 := c_2
  have b_3 := c_3
  have b_4 := c_4
  have b_5 := c_5
  have b_6 := c_6
  have b_7 := c_7
  have b_8 := c_8
  have b_9 := c_9
  have b_90 := c_90
  have b_91 := c_91
  have b_92 := c_92
  have b_93 := c_93
  have b_94 := c_94
  have b_95 := c_95
  have b_96 := c_96
  have b_97 := c_97
  have b_98 := c_98
  have b_99 := c_99
  have b_300 := c_300
  have b_301 := c_301
  refine lv_aload_n hx hb dX5_chain_0 rfl (lv_at hl 0 rfl) ?_
  refine x_get (ci := 6) (C := RX5) (T := TX5) (n := 13) (ref := RX5) hx hb hts hin_6 hown hK hw 0 (by omega) c_0 rfl 8 (by decide) hf_57 (fun _ h => h) rfl dX5_chain_1 ?_
  refine x_Vi (q := 90) (As := []) (rest := []) ⟨hx, hb, hml, hown, hts⟩ (k_X3_firstBroken_none l D ca N ad B tR tK f dd (n 5) (z 2) (z 3) zn (z 4) (g 4) (g 5) (g 6) (fun i8 => g (1000 + i8)) c_90 c_91 c_92 c_93 c_94 c_95 c_96 c_97 c_98 c_99 F_M (by omega) (by omega) (by omega) hall) (cwV 0 hts gX5_chain_X3_firstBroken rfl rfl rfl (by decide +kernel) ⟨Nat.le_of_ble_eq_true rfl, Nat.le_of_ble_eq_true rfl⟩) hK hE hB hw (by omega) c_90 rfl rfl rfl rfl hl.1 (Nat.le_of_ble_eq_true rfl) ⟨Nat.zero_le _, Nat.zero_le _⟩ dX5_chain_4 (fun r_2 f_1 H locs hp hw => ?_)
  obtain ⟨s1_3, n1_4, w1_5, e1_6, hq_7, er, eu⟩ := hp
  rw [← er]
  have ef_1 : f_1 = va_up (va_up (va_up (va_up f 95 (ai (ca 0) 200 s1_3)) 94 (.inr (3, [.ref (ad 95), .int (nI n1_4)]))) 93 (ai (ca 0) 64 w1_5)) 92 (ai (ca 0) 8 e1_6) := eu
  have c_95 : f_1 95 = ai (ca 0) 200 s1_3 := by rw [ef_1, va_up_ne _ _ (by decide), va_up_ne _ _ (by decide), va_up_ne _ _ (by decide), va_up_self]
  have c_94 : f_1 94 = .inr (3, [.ref (ad 95), .int (nI n1_4)]) := by rw [ef_1, va_up_ne _ _ (by decide), va_up_ne _ _ (by decide), va_up_self]
  have c_93 : f_1 93 = ai (ca 0) 64 w1_5 := by rw [ef_1, va_up_ne _ _ (by decide), va_up_self]
  have c_92 : f_1 92 = ai (ca 0) 8 e1_6 := by rw [ef_1, va_up_self]
  have c_0 : f_1 0 = .inr (6, [.int (nI (n 0)), .ref (ad 1), .ref (ad 4), .ref (ad 6), .ref (ad 8), .int (nI (n 1)), .ref (ad 9), .int (nI (n 2)), .ref (ad 90), .ref (ad 300), .ref (ad 301), .int (nI (n 3)), .int (g 13 0)]) := by rw [ef_1, va_up_ne _ _ (by decide), va_up_ne _ _ (by decide), va_up_ne _ _ (by decide), va_up_ne _ _ (by decide)]; exact c_0
  have c_1 : f_1 1 = .inr (2, [.ref (ad 2), .ref (ad 3)]) := by rw [ef_1, va_up_ne _ _ (by decide), va_up_ne _ _ (by decide), va_up_ne _ _ (by decide), va_up_ne _ _ (by decide)]; exact c_1
  have c_2 : f_1 2 = ai (ca 0) 8 (z 0) := by rw [ef_1, va_up_ne _ _ (by decide), va_up_ne _ _ (by decide), va_up_ne _ _ (by decide), va_up_ne _ _ (by decide)]; exact c_2
  have c_3 : f_1 3 = ai (ca 0) 64 (z 1) := by rw [ef_1, va_up_ne _ _ (by decide), va_up_ne _ _ (by decide), va_up_ne _ _ (by decide), va_up_ne _ _ (by decide)]; exact c_3
  have c_4 : f_1 4 = .inr (5, [.ref (ad 5)]) := by rw [ef_1, va_up_ne _ _ (by decide), va_up_ne _ _ (by decide), va_up_ne _ _ (by decide), va_up_ne _ _ (by decide)]; exact c_4
  have c_5 : f_1 5 = ai (ca 0) 256 tb := by rw [ef_1, va_up_ne _ _ (by decide), va_up_ne _ _ (by decide), va_up_ne _ _ (by decide), va_up_ne _ _ (by decide)]; exact c_5
  have c_6 : f_1 6 = .inr (3, [.ref (ad 7), .int (nI (n 4))]) := by rw [ef_1, va_up_ne _ _ (by decide), va_up_ne _ _ (by decide), va_up_ne _ _ (by decide), va_up_ne _ _ (by decide)]; exact c_6
  have c_7 : f_1 7 = ai (ca 0) 200 (g 0) := by rw [ef_1, va_up_ne _ _ (by decide), va_up_ne _ _ (by decide), va_up_ne _ _ (by decide), va_up_ne _ _ (by decide)]; exact c_7
  have c_8 : f_1 8 = ai (ca 0) 8 (g 1) := by rw [ef_1, va_up_ne _ _ (by decide), va_up_ne _ _ (by decide), va_up_ne _ _ (by decide), va_up_ne _ _ (by decide)]; exact c_8
  have c_9 : f_1 9 = aq (ca 3) 20 (fun i => some (ad (10 + 4 * i))) := by rw [ef_1, va_up_ne _ _ (by decide), va_up_ne _ _ (by decide), va_up_ne _ _ (by decide), va_up_ne _ _ (by decide)]; exact c_9
  have c_90 : f_1 90 = .inr (4, [.ref (ad 91), .ref (ad 94), .ref (ad 96), .ref (ad 97), .ref (ad 98), .ref (ad 99), .int (nI (n 5))]) := by rw [ef_1, va_up_ne _ _ (by decide), va_up_ne _ _ (by decide), va_up_ne _ _ (by decide), va_up_ne _ _ (by decide)]; exact c_90
  have c_91 : f_1 91 = .inr (2, [.ref (ad 92), .ref (ad 93)]) := by rw [ef_1, va_up_ne _ _ (by decide), va_up_ne _ _ (by decide), va_up_ne _ _ (by decide), va_up_ne _ _ (by decide)]; exact c_91
  have c_96 : f_1 96 = ai (ca 0) 200 (g 4) := by rw [ef_1, va_up_ne _ _ (by decide), va_up_ne _ _ (by decide), va_up_ne _ _ (by decide), va_up_ne _ _ (by decide)]; exact c_96
  have c_97 : f_1 97 = ai (ca 0) 200 (g 5) := by rw [ef_1, va_up_ne _ _ (by decide), va_up_ne _ _ (by decide), va_up_ne _ _ (by decide), va_up_ne _ _ (by decide)]; exact c_97
  have c_98 : f_1 98 = ai (ca 0) 200 (g 6) := by rw [ef_1, va_up_ne _ _ (by decide), va_up_ne _ _ (by decide), va_up_ne _ _ (by decide), va_up_ne _ _ (by decide)]; exact c_98
  have c_99 : f_1 99 = aq (ca 4) 200 (fun i => some (ad (100 + i))) := by rw [ef_1, va_up_ne _ _ (by decide), va_up_ne _ _ (by decide), va_up_ne _ _ (by decide), va_up_ne _ _ (by decide)]; exact c_99
  have c_300 : f_1 300 = ai (ca 0) 20 (g 2) := by rw [ef_1, va_up_ne _ _ (by decide), va_up_ne _ _ (by decide), va_up_ne _ _ (by decide), va_up_ne _ _ (by decide)]; exact c_300
  have c_301 : f_1 301 = ai (ca 2) 20 (g 3) := by rw [ef_1, va_up_ne _ _ (by decide), va_up_ne _ _ (by decide), va_up_ne _ _ (by decide), va_up_ne _ _ (by decide)]; exact c_301
  have qz_0 : (va_up (va_up (va_up z 2 e1_6) 3 w1_5) 4 s1_3) 0 = z 0 := by rw [va_up_ne _ _ (by decide), va_up_ne _ _ (by decide), va_up_ne _ _ (by decide)]
  have qz_1 : (va_up (va_up (va_up z 2 e1_6) 3 w1_5) 4 s1_3) 1 = z 1 := by rw [va_up_ne _ _ (by decide), va_up_ne _ _ (by decide), va_up_ne _ _ (by decide)]
  have qz_2 : (va_up (va_up (va_up z 2 e1_6) 3 w1_5) 4 s1_3) 2 = e1_6 := by rw [va_up_ne _ _ (by decide), va_up_ne _ _ (by decide), va_up_self]
  have qz_3 : (va_up (va_up (va_up z 2 e1_6) 3 w1_5) 4 s1_3) 3 = w1_5 := by rw [va_up_ne _ _ (by decide), va_up_self]
  have qz_4 : (va_up (va_up (va_up z 2 e1_6) 3 w1_5) 4 s1_3) 4 = s1_3 := by rw [va_up_self]
  have hRz : RepX ca ad n g (va_up (va_up (va_up z 2 e1_6) 3 w1_5) 4 s1_3) n1_4 tb f_1 := ⟨c_0,
        c_1,
        (by rw [qz_0]; exact c_2),
        (by rw [qz_1]; exact c_3),
        c_4,
        c_5,
        c_6,
        c_7,
        c_8,
        c_9,
        c_90,
        c_91,
        (by rw [qz_2]; exact c_92),
        (by rw [qz_3]; exact c_93),
        c_94,
        (by rw [qz_4]; exact c_95),
        c_96,
        c_97,
        c_98,
        c_99,
        c_300,
        c_301,
        (fun i9 hi9 => by rw [ef_1, va_up_ne _ _ (by omega), va_up_ne _ _ (by omega), va_up_ne _ _ (by omega), va_up_ne _ _ (by omega)]; exact F_kf i9 hi9),
        (fun i9 hi9 => by rw [ef_1, va_up_ne _ _ (by omega), va_up_ne _ _ (by omega), va_up_ne _ _ (by omega), va_up_ne _ _ (by omega)]; exact F_oc i9 hi9),
        (fun i9 hi9 => by rw [ef_1, va_up_ne _ _ (by omega), va_up_ne _ _ (by omega), va_up_ne _ _ (by omega), va_up_ne _ _ (by omega)]; exact F_va i9 hi9),
        (fun i9 hi9 => by rw [ef_1, va_up_ne _ _ (by omega), va_up_ne _ _ (by omega), va_up_ne _ _ (by omega), va_up_ne _ _ (by omega)]; exact F_lw i9 hi9),
        (fun i9 hi9 => by rw [ef_1, va_up_ne _ _ (by omega), va_up_ne _ _ (by omega), va_up_ne _ _ (by omega), va_up_ne _ _ (by omega)]; exact F_M i9 hi9), (by first | omega | assumption), hT⟩
  exact x_iret hx hb hr hlocks hw ⟨rfl, va_up (va_up (va_up z 2 e1_6) 3 w1_5) 4 s1_3, n1_4, hRz, (fun y hy => by rw [ef_1, va_up_ne _ _ (by omega), va_up_ne _ _ (by omega), va_up_ne _ _ (by omega), va_up_ne _ _ (by omega)])⟩ dX5_chain_7

set_option maxHeartbeats 4000000 in
set_option maxRecDepth 100000 in
theorem k_X5_chain_some (l : Launch) (D : va_G) (ca : Nat → ClassId) (N : Nat) (ad : Nat → Nat) (B tR tK : Nat) (f : Nat → va_E) (dd : xD N ad B) (hN : 302 ≤ N) (n : Nat → Nat) (g : Nat → Nat → Int32) (z : Nat → Nat → Int32) (zn : Nat) (tb : Nat → Int32) (hR : RepX ca ad n g z zn tb f) (b : Nat) (h5 : n 5 ≤ 200) (hb9 : b < n 5) (hall : ∀ i, i < b → ∀ j, j < 8 → g (1000 + i) j = rowD (prevD (fun i8 => g (1000 + i8)) i) (g 4 i) (g 5 i) (g 6 i) j) (hbad : ∃ j, j < 8 ∧ g (1000 + b) j ≠ rowD (prevD (fun i8 => g (1000 + i8)) b) (g 4 b) (g 5 b) (g 6 b) j) : xMi l yX5_chain wsX5_chain rmX5_chain [.ref (ad 0)] D ca N ad B tR tK f (fun r u => nI b = r ∧ ∃ (z1 : Nat → Nat → Int32) (zn1 : Nat), RepX ca ad n g z1 zn1 tb u ∧ ∀ y, 302 ≤ y → u y = f y) := by
  refine x_open (cc := cX5_chain) (maxL := 1) (ret := (some .int)) (by decide) rfl (Nat.le_of_ble_eq_true rfl) ?_
  intro p e s m below meth c ls hx hb hml hown hts hr hlocks hnm hB hK hE hw hl
  have hown : s.vm.findClass RX5 = some m.cls := hown
  have hl : lv_has ls 1 [(0, .ref (ad 0))] := hl
  obtain ⟨c_0, c_1, c_2, c_3, c_4, c_5, c_6, c_7, c_8, c_9, c_90, c_91, c_92, c_93, c_94, c_95, c_96, c_97, c_98, c_99, c_300, c_301, F_kf, F_oc, F_va, F_lw, F_M, hzn, hT⟩ := hR
  have hin_6 : ∀ w ∈ u_ws RX5 TX5 13, w ∈ wsX5_chain := by decide +kernel
  have hf_57 := hts (.fieldLink RX5 57 "FixityRows" "rows" "LFixityRows$RowChain;") (by decide +kernel)
  have b_0 := c_0
  have b_1 := c_1
  have b_2 := c_2
  have b_3 := c_3
  have b_4 := c_4
  have b_5 := c_5
  have b_6 := c_6
  have b_7 := c_7
  have b_8 := c_8
  have b_9 := c_9
  have b_90 := c_90
  have b_91 := c_91
  have b_92 := c_92
  have b_93 := c_93
  have b_94 := c_94
  have b_95 := c_95
  have b_96 := c_96
  have b_97 := c_97
  have b_98 := c_98
  have b_99 := c_99
  have b_300 := c_300
  have b_301 := c_301
  refine lv_aload_n hx hb dX5_chain_0 rfl (lv_at hl 0 rfl) ?_
  refine x_get (ci := 6) (C := RX5) (T := TX5) (n := 13) (ref := RX5) hx hb hts hin_6 hown hK hw 0 (by omega) c_0 rfl 8 (by decide) hf_57 (fun _ h => h) rfl dX5_chain_1 ?_
  refine x_Vi (q := 90) (As := []) (rest := []) ⟨hx, hb, hml, hown, hts⟩ (k_X3_firstBroken_some l D ca N ad B tR tK f dd (n 5) (z 2) (z 3) zn (z 4) (g 4) (g 5) (g 6) (fun i8 => g (1000 + i8)) b c_90 c_91 c_92 c_93 c_94 c_95 c_96 c_97 c_98 c_99 F_M (by omega) (by omega) (by omega) (by omega) hall hbad) (cwV 0 hts gX5_chain_X3_firstBroken rfl rfl rfl (by decide +kernel) ⟨Nat.le_of_ble_eq_true rfl, Nat.le_of_ble_eq_true rfl⟩) hK hE hB hw (by omega) c_90 rfl rfl rfl rfl hl.1 (Nat.le_of_ble_eq_true rfl) ⟨Nat.zero_le _, Nat.zero_le _⟩ dX5_chain_4 (fun r_2 f_1 H locs hp hw => ?_)
  obtain ⟨s1_3, n1_4, w1_5, e1_6, hq_7, er, eu⟩ := hp
  rw [← er]
  have ef_1 : f_1 = va_up (va_up (va_up (va_up f 95 (ai (ca 0) 200 s1_3)) 94 (.inr (3, [.ref (ad 95), .int (nI n1_4)]))) 93 (ai (ca 0) 64 w1_5)) 92 (ai (ca 0) 8 e1_6) := eu
  have c_95 : f_1 95 = ai (ca 0) 200 s1_3 := by rw [ef_1, va_up_ne _ _ (by decide), va_up_ne _ _ (by decide), va_up_ne _ _ (by decide), va_up_self]
  have c_94 : f_1 94 = .inr (3, [.ref (ad 95), .int (nI n1_4)]) := by rw [ef_1, va_up_ne _ _ (by decide), va_up_ne _ _ (by decide), va_up_self]
  have c_93 : f_1 93 = ai (ca 0) 64 w1_5 := by rw [ef_1, va_up_ne _ _ (by decide), va_up_self]
  have c_92 : f_1 92 = ai (ca 0) 8 e1_6 := by rw [ef_1, va_up_self]
  have c_0 : f_1 0 = .inr (6, [.int (nI (n 0)), .ref (ad 1), .ref (ad 4), .ref (ad 6), .ref (ad 8), .int (nI (n 1)), .ref (ad 9), .int (nI (n 2)), .ref (ad 90), .ref (ad 300), .ref (ad 301), .int (nI (n 3)), .int (g 13 0)]) := by rw [ef_1, va_up_ne _ _ (by decide), va_up_ne _ _ (by decide), va_up_ne _ _ (by decide), va_up_ne _ _ (by decide)]; exact c_0
  have c_1 : f_1 1 = .inr (2, [.ref (ad 2), .ref (ad 3)]) := by rw [ef_1, va_up_ne _ _ (by decide), va_up_ne _ _ (by decide), va_up_ne _ _ (by decide), va_up_ne _ _ (by decide)]; exact c_1
  have c_2 : f_1 2 = ai (ca 0) 8 (z 0) := by rw [ef_1, va_up_ne _ _ (by decide), va_up_ne _ _ (by decide), va_up_ne _ _ (by decide), va_up_ne _ _ (by decide)]; exact c_2
  have c_3 : f_1 3 = ai (ca 0) 64 (z 1) := by rw [ef_1, va_up_ne _ _ (by decide), va_up_ne _ _ (by decide), va_up_ne _ _ (by decide), va_up_ne _ _ (by decide)]; exact c_3
  have c_4 : f_1 4 = .inr (5, [.ref (ad 5)]) := by rw [ef_1, va_up_ne _ _ (by decide), va_up_ne _ _ (by decide), va_up_ne _ _ (by decide), va_up_ne _ _ (by decide)]; exact c_4
  have c_5 : f_1 5 = ai (ca 0) 256 tb := by rw [ef_1, va_up_ne _ _ (by decide), va_up_ne _ _ (by decide), va_up_ne _ _ (by decide), va_up_ne _ _ (by decide)]; exact c_5
  have c_6 : f_1 6 = .inr (3, [.ref (ad 7), .int (nI (n 4))]) := by rw [ef_1, va_up_ne _ _ (by decide), va_up_ne _ _ (by decide), va_up_ne _ _ (by decide), va_up_ne _ _ (by decide)]; exact c_6
  have c_7 : f_1 7 = ai (ca 0) 200 (g 0) := by rw [ef_1, va_up_ne _ _ (by decide), va_up_ne _ _ (by decide), va_up_ne _ _ (by decide), va_up_ne _ _ (by decide)]; exact c_7
  have c_8 : f_1 8 = ai (ca 0) 8 (g 1) := by rw [ef_1, va_up_ne _ _ (by decide), va_up_ne _ _ (by decide), va_up_ne _ _ (by decide), va_up_ne _ _ (by decide)]; exact c_8
  have c_9 : f_1 9 = aq (ca 3) 20 (fun i => some (ad (10 + 4 * i))) := by rw [ef_1, va_up_ne _ _ (by decide), va_up_ne _ _ (by decide), va_up_ne _ _ (by decide), va_up_ne _ _ (by decide)]; exact c_9
  have c_90 : f_1 90 = .inr (4, [.ref (ad 91), .ref (ad 94), .ref (ad 96), .ref (ad 97), .ref (ad 98), .ref (ad 99), .int (nI (n 5))]) := by rw [ef_1, va_up_ne _ _ (by decide), va_up_ne _ _ (by decide), va_up_ne _ _ (by decide), va_up_ne _ _ (by decide)]; exact c_90
  have c_91 : f_1 91 = .inr (2, [.ref (ad 92), .ref (ad 93)]) := by rw [ef_1, va_up_ne _ _ (by decide), va_up_ne _ _ (by decide), va_up_ne _ _ (by decide), va_up_ne _ _ (by decide)]; exact c_91
  have c_96 : f_1 96 = ai (ca 0) 200 (g 4) := by rw [ef_1, va_up_ne _ _ (by decide), va_up_ne _ _ (by decide), va_up_ne _ _ (by decide), va_up_ne _ _ (by decide)]; exact c_96
  have c_97 : f_1 97 = ai (ca 0) 200 (g 5) := by rw [ef_1, va_up_ne _ _ (by decide), va_up_ne _ _ (by decide), va_up_ne _ _ (by decide), va_up_ne _ _ (by decide)]; exact c_97
  have c_98 : f_1 98 = ai (ca 0) 200 (g 6) := by rw [ef_1, va_up_ne _ _ (by decide), va_up_ne _ _ (by decide), va_up_ne _ _ (by decide), va_up_ne _ _ (by decide)]; exact c_98
  have c_99 : f_1 99 = aq (ca 4) 200 (fun i => some (ad (100 + i))) := by rw [ef_1, va_up_ne _ _ (by decide), va_up_ne _ _ (by decide), va_up_ne _ _ (by decide), va_up_ne _ _ (by decide)]; exact c_99
  have c_300 : f_1 300 = ai (ca 0) 20 (g 2) := by rw [ef_1, va_up_ne _ _ (by decide), va_up_ne _ _ (by decide), va_up_ne _ _ (by decide), va_up_ne _ _ (by decide)]; exact c_300
  have c_301 : f_1 301 = ai (ca 2) 20 (g 3) := by rw [ef_1, va_up_ne _ _ (by decide), va_up_ne _ _ (by decide), va_up_ne _ _ (by decide), va_up_ne _ _ (by decide)]; exact c_301
  have qz_0 : (va_up (va_up (va_up z 2 e1_6) 3 w1_5) 4 s1_3) 0 = z 0 := by rw [va_up_ne _ _ (by decide), va_up_ne _ _ (by decide), va_up_ne _ _ (by decide)]
  have qz_1 : (va_up (va_up (va_up z 2 e1_6) 3 w1_5) 4 s1_3) 1 = z 1 := by rw [va_up_ne _ _ (by decide), va_up_ne _ _ (by decide), va_up_ne _ _ (by decide)]
  have qz_2 : (va_up (va_up (va_up z 2 e1_6) 3 w1_5) 4 s1_3) 2 = e1_6 := by rw [va_up_ne _ _ (by decide), va_up_ne _ _ (by decide), va_up_self]
  have qz_3 : (va_up (va_up (va_up z 2 e1_6) 3 w1_5) 4 s1_3) 3 = w1_5 := by rw [va_up_ne _ _ (by decide), va_up_self]
  have qz_4 : (va_up (va_up (va_up z 2 e1_6) 3 w1_5) 4 s1_3) 4 = s1_3 := by rw [va_up_self]
  have hRz : RepX ca ad n g (va_up (va_up (va_up z 2 e1_6) 3 w1_5) 4 s1_3) n1_4 tb f_1 := ⟨c_0,
        c_1,
        (by rw [qz_0]; exact c_2),
        (by rw [qz_1]; exact c_3),
        c_4,
        c_5,
        c_6,
        c_7,
        c_8,
        c_9,
        c_90,
        c_91,
        (by rw [qz_2]; exact c_92),
        (by rw [qz_3]; exact c_93),
        c_94,
        (by rw [qz_4]; exact c_95),
        c_96,
        c_97,
        c_98,
        c_99,
        c_300,
        c_301,
        (fun i9 hi9 => by rw [ef_1, va_up_ne _ _ (by omega), va_up_ne _ _ (by omega), va_up_ne _ _ (by omega), va_up_ne _ _ (by omega)]; exact F_kf i9 hi9),
        (fun i9 hi9 => by rw [ef_1, va_up_ne _ _ (by omega), va_up_ne _ _ (by omega), va_up_ne _ _ (by omega), va_up_ne _ _ (by omega)]; exact F_oc i9 hi9),
        (fun i9 hi9 => by rw [ef_1, va_up_ne _ _ (by omega), va_up_ne _ _ (by omega), va_up_ne _ _ (by omega), va_up_ne _ _ (by omega)]; exact F_va i9 hi9),
        (fun i9 hi9 => by rw [ef_1, va_up_ne _ _ (by omega), va_up_ne _ _ (by omega), va_up_ne _ _ (by omega), va_up_ne _ _ (by omega)]; exact F_lw i9 hi9),
        (fun i9 hi9 => by rw [ef_1, va_up_ne _ _ (by omega), va_up_ne _ _ (by omega), va_up_ne _ _ (by omega), va_up_ne _ _ (by omega)]; exact F_M i9 hi9), (by first | omega | assumption), hT⟩
  exact x_iret hx hb hr hlocks hw ⟨rfl, va_up (va_up (va_up z 2 e1_6) 3 w1_5) 4 s1_3, n1_4, hRz, (fun y hy => by rw [ef_1, va_up_ne _ _ (by omega), va_up_ne _ _ (by omega), va_up_ne _ _ (by omega), va_up_ne _ _ (by omega)])⟩ dX5_chain_7
