/-! ===== a day is worked ===== -/
def appN (n : Nat → Nat) : Nat → Nat := if n 5 < 200 then va_up n 5 ((n 5) + 1) else n
def rowG (n : Nat → Nat) (g : Nat → Nat → Int32) (kd fl y : Int32) : Nat → Nat → Int32 := va_up (va_up (va_up (va_up g 4 (upd (g 4) (n 5) kd)) 5 (upd (g 5) (n 5) fl)) 6 (upd (g 6) (n 5) y)) (1000 + (n 5)) (rowD (prevD (fun i8 => g (1000 + i8)) (n 5)) kd fl y)
def fitG (n : Nat → Nat) (g : Nat → Nat → Int32) (i : Nat) (y : Int32) : Nat → Nat → Int32 := va_up (va_up (va_up (va_up (va_up g 4 (upd (g 4) (n 5) (nI 1))) 5 (upd (g 5) (n 5) (nI i))) 6 (upd (g 6) (n 5) y)) 9 (upd (g 9) i y)) (1000 + (n 5)) (rowD (prevD (fun i8 => g (1000 + i8)) (n 5)) (nI 1) (nI i) y)
noncomputable def fitI (n : Nat → Nat) (g : Nat → Nat → Int32) (i : Nat) : Int32 := @ite _ (fitsX n g i i) (Classical.propDecidable _) (nI 1) (nI 0)
noncomputable def chkG (n : Nat → Nat) (g : Nat → Nat → Int32) (i : Nat) (y : Int32) : Nat → Nat → Int32 := @ite _ (fitsX n g i i) (Classical.propDecidable _) (if n 5 < 200 then fitG n g i y else va_up g 9 (upd (g 9) i y)) (if n 5 < 200 then rowG n g (nI 2) (nI i) y else g)
theorem chkG_fit {n : Nat → Nat} {g : Nat → Nat → Int32} {i : Nat} {y : Int32} (h : fitsX n g i i) (h5 : n 5 < 200) : chkG n g i y = fitG n g i y ∧ appN n = va_up n 5 ((n 5) + 1) ∧ fitI n g i = nI 1 := ⟨(if_pos h).trans (if_pos h5), if_pos h5, if_pos h⟩
theorem chkG_fitF {n : Nat → Nat} {g : Nat → Nat → Int32} {i : Nat} {y : Int32} (h : fitsX n g i i) (h5 : n 5 = 200) : chkG n g i y = va_up g 9 (upd (g 9) i y) ∧ appN n = n ∧ fitI n g i = nI 1 := ⟨(if_pos h).trans (if_neg (by omega)), if_neg (by omega), if_pos h⟩
theorem chkG_no {n : Nat → Nat} {g : Nat → Nat → Int32} {i : Nat} {y : Int32} (h : ¬ fitsX n g i i) (h5 : n 5 < 200) : chkG n g i y = rowG n g (nI 2) (nI i) y ∧ appN n = va_up n 5 ((n 5) + 1) ∧ fitI n g i = nI 0 := ⟨(if_neg h).trans (if_pos h5), if_pos h5, if_neg h⟩
theorem chkG_noF {n : Nat → Nat} {g : Nat → Nat → Int32} {i : Nat} {y : Int32} (h : ¬ fitsX n g i i) (h5 : n 5 = 200) : chkG n g i y = g ∧ appN n = n ∧ fitI n g i = nI 0 := ⟨(if_neg h).trans (if_neg (by omega)), if_neg (by omega), if_neg h⟩
theorem chkG_at {n : Nat → Nat} {g : Nat → Nat → Int32} {i a : Nat} {y : Int32} (h4 : a ≠ 4) (h5 : a ≠ 5) (h6 : a ≠ 6) (h9 : a ≠ 9) (hM : a < 1000) : chkG n g i y a = g a := by
  unfold chkG
  by_cases h : fitsX n g i i
  · rw [if_pos h]
    by_cases h1 : n 5 < 200
    · rw [if_pos h1]; unfold fitG
      rw [va_up_ne _ _ (by omega), va_up_ne _ _ h9, va_up_ne _ _ h6, va_up_ne _ _ h5, va_up_ne _ _ h4]
    · rw [if_neg h1, va_up_ne _ _ h9]
  · rw [if_neg h]
    by_cases h1 : n 5 < 200
    · rw [if_pos h1]; unfold rowG
      rw [va_up_ne _ _ (by omega), va_up_ne _ _ h6, va_up_ne _ _ h5, va_up_ne _ _ h4]
    · rw [if_neg h1]
noncomputable def dueStep (n : Nat → Nat) (g : Nat → Nat → Int32) (y : Int32) (k j : Nat) : (Nat → Nat) × (Nat → Nat → Int32) :=
  (va_up (appN n) 3 (k + 1), va_up (va_up (chkG n (va_up g 2 (upd (g 2) k (nI j))) j y) 3 (upd (chkG n (va_up g 2 (upd (g 2) k (nI j))) j y 3) k (fitI n (va_up g 2 (upd (g 2) k (nI j))) j))) 10 (upd (chkG n (va_up g 2 (upd (g 2) k (nI j))) j y 10) j (chkG n (va_up g 2 (upd (g 2) k (nI j))) j y 10 j + ((y - chkG n (va_up g 2 (upd (g 2) k (nI j))) j y 10 j) / chkG n (va_up g 2 (upd (g 2) k (nI j))) j y 11 j + nI 1) * chkG n (va_up g 2 (upd (g 2) k (nI j))) j y 11 j)))
noncomputable def dueS (n : Nat → Nat) (g : Nat → Nat → Int32) (y : Int32) : Nat → (Nat → Nat) × (Nat → Nat → Int32)
  | 0 => (va_up n 3 0, va_up g 13 (upd (g 13) 0 y))
  | k + 1 => match lwF (dueS n g y k).2 y (n 2) with
    | none => dueS n g y k
    | some j => dueStep (dueS n g y k).1 (dueS n g y k).2 y k j
theorem dueS_none {n : Nat → Nat} {g : Nat → Nat → Int32} {y : Int32} {k : Nat} (h : lwF (dueS n g y k).2 y (n 2) = none) : dueS n g y (k + 1) = dueS n g y k := by
  show (match lwF (dueS n g y k).2 y (n 2) with | none => _ | some j => _) = _
  rw [h]
theorem dueS_some {n : Nat → Nat} {g : Nat → Nat → Int32} {y : Int32} {k j : Nat} (h : lwF (dueS n g y k).2 y (n 2) = some j) : dueS n g y (k + 1) = dueStep (dueS n g y k).1 (dueS n g y k).2 y k j := by
  show (match lwF (dueS n g y k).2 y (n 2) with | none => _ | some j => _) = _
  rw [h]
theorem dueS_stop {n : Nat → Nat} {g : Nat → Nat → Int32} {y : Int32} {k : Nat} (h : lwF (dueS n g y k).2 y (n 2) = none) : ∀ d, dueS n g y (k + d) = dueS n g y k := by
  intro d
  induction d with
  | zero => rfl
  | succ d ih =>
    rw [← Nat.add_assoc, dueS_none (by rw [ih]; exact h), ih]
theorem appN_at {n : Nat → Nat} {a : Nat} (h : a ≠ 5) : appN n a = n a := by
  unfold appN
  by_cases h1 : n 5 < 200
  · rw [if_pos h1, va_up_ne _ _ h]
  · rw [if_neg h1]
theorem appN_5 {n : Nat → Nat} (h : n 5 ≤ 200) : appN n 5 ≤ 200 := by
  unfold appN
  by_cases h1 : n 5 < 200
  · rw [if_pos h1, va_up_self]; omega
  · rw [if_neg h1]; exact h
theorem dueS_facts {n : Nat → Nat} {g : Nat → Nat → Int32} {y : Int32} (h5 : n 5 ≤ 200) : ∀ k, (dueS n g y k).1 0 = n 0 ∧ (dueS n g y k).1 2 = n 2 ∧ (∀ i, (dueS n g y k).1 (10 + i) = n (10 + i)) ∧ (dueS n g y k).1 5 ≤ 200 := by
  intro k
  induction k with
  | zero => exact ⟨rfl, rfl, fun i => va_up_ne _ _ (by omega), h5⟩
  | succ k ih =>
    cases e : lwF (dueS n g y k).2 y (n 2) with
    | none => rw [dueS_none e]; exact ih
    | some j =>
      rw [dueS_some e]
      obtain ⟨a, b, c, d⟩ := ih
      refine ⟨?_, ?_, fun i => ?_, ?_⟩
      · show va_up (appN _) 3 (k + 1) 0 = _
        rw [va_up_ne _ _ (by decide), appN_at (by decide), a]
      · show va_up (appN _) 3 (k + 1) 2 = _
        rw [va_up_ne _ _ (by decide), appN_at (by decide), b]
      · show va_up (appN _) 3 (k + 1) (10 + i) = _
        rw [va_up_ne _ _ (by omega), appN_at (by omega), c]
      · show va_up (appN _) 3 (k + 1) 5 ≤ _
        rw [va_up_ne _ _ (by decide)]
        exact appN_5 d
theorem oI_some {o : Option Nat} (h : ¬ oI o = -1) : ∃ j, o = some j := by
  cases o with
  | none => exact absurd rfl h
  | some j => exact ⟨j, rfl⟩
noncomputable def dueR (n : Nat → Nat) (g : Nat → Nat → Int32) (y : Int32) : Int32 := if cwF (dueS n g y (n 0)).2 y (n 2) = 0 then nI ((dueS n g y (n 0)).1 3) else (-10) - nI (cwF (dueS n g y (n 0)).2 y (n 2))

abbrev rmX5_due : Room := { frames := 6, cells := 0, slots := 0, locals := 146 }

set_option maxHeartbeats 4000000 in
set_option maxRecDepth 100000 in
theorem k_X5_due_day (l : Launch) (D : va_G) (ca : Nat → ClassId) (N : Nat) (ad : Nat → Nat) (B tR tK : Nat) (f : Nat → va_E) (dd : xD N ad B) (hN : 302 ≤ N) (n : Nat → Nat) (g : Nat → Nat → Int32) (z : Nat → Nat → Int32) (zn : Nat) (tb : Nat → Int32) (hR : RepX ca ad n g z zn tb f) (y : Int32) (ho : y < 0 ∨ nI 1000000 < y) : xMi l yX5_due wsX5_due rmX5_due [.ref (ad 0), .int y] D ca N ad B tR tK f (fun r u => (-2) = r ∧ ∃ (z1 : Nat → Nat → Int32) (zn1 : Nat), RepX ca ad n g z1 zn1 tb u ∧ ∀ y, 302 ≤ y → u y = f y) := by
  refine x_open (cc := cX5_due) (maxL := 4) (ret := (some .int)) (by decide) rfl (Nat.le_of_ble_eq_true rfl) ?_
  intro p e s m below meth c ls hx hb hml hown hts hr hlocks hnm hB hK hE hw hl
  have hown : s.vm.findClass RX5 = some m.cls := hown
  have hl : lv_has ls 4 [(0, .ref (ad 0)), (1, .int y)] := hl
  obtain ⟨c_0, c_1, c_2, c_3, c_4, c_5, c_6, c_7, c_8, c_9, c_90, c_91, c_92, c_93, c_94, c_95, c_96, c_97, c_98, c_99, c_300, c_301, F_kf, F_oc, F_va, F_lw, F_M, hzn, hT⟩ := hR
  have b_0 := c_0
  have b_1 := c_1
  have b_2 := c_2
  have b_3 := c_3
  have b_4 := c_4
  have b_5 := c_5
  have b_6 := c_6
  have b_7 := c_7
  have b_8 := c_8
  have b_9 := c_9
  have b_90 := c_90
  have b_91 := c_91
  have b_92 := c_92
  have b_93 := c_93
  have b_94 := c_94
  have b_95 := c_95
  have b_96 := c_96
  have b_97 := c_97
  have b_98 := c_98
  have b_99 := c_99
  have b_300 := c_300
  have b_301 := c_301
  refine lv_iload_n hx hb dX5_due_0 rfl (lv_at hl 1 rfl) ?_
  refine x_Si (As := [.int y]) (rest := []) ⟨hx, hb, hml, hown, hts⟩ (k_X5_isDay_no l D ca N ad B tR tK f dd y   ho) (va_cwS 1 hts gX5_due_X5_isDay rfl rfl rfl (by decide +kernel) ⟨Nat.le_of_ble_eq_true rfl, Nat.le_of_ble_eq_true rfl⟩) hK hE hB hw rfl rfl hl.1 (Nat.le_of_ble_eq_true rfl) ⟨Nat.zero_le _, Nat.zero_le _⟩ dX5_due_1 (fun r_2 f_1 H locs hp hw => ?_)
  obtain ⟨er, eu⟩ := hp
  rw [← er]
  rw [← eu] at hw
  refine lv_if_ne (tgt := 10) hx hb dX5_due_4 (by decide) (fun h => False.elim (h (by decide))) (fun _ => ?_)
  refine lv_bipush (v := (-2)) hx hb dX5_due_7 (by decide) ?_
  have hRz : RepX ca ad n g z zn tb f := ⟨c_0,
        c_1,
        c_2,
        c_3,
        c_4,
        c_5,
        c_6,
        c_7,
        c_8,
        c_9,
        c_90,
        c_91,
        c_92,
        c_93,
        c_94,
        c_95,
        c_96,
        c_97,
        c_98,
        c_99,
        c_300,
        c_301,
        (fun i9 hi9 => by exact F_kf i9 hi9),
        (fun i9 hi9 => by exact F_oc i9 hi9),
        (fun i9 hi9 => by exact F_va i9 hi9),
        (fun i9 hi9 => by exact F_lw i9 hi9),
        (fun i9 hi9 => by exact F_M i9 hi9), hzn, hT⟩
  exact x_iret hx hb hr hlocks hw ⟨rfl, z, zn, hRz, (fun _ _ => rfl)⟩ dX5_due_9

set_option maxHeartbeats 4000000 in
set_option maxRecDepth 100000 in
theorem k_X5_due_state (l : Launch) (D : va_G) (ca : Nat → ClassId) (N : Nat) (ad : Nat → Nat) (B tR tK : Nat) (f : Nat → va_E) (dd : xD N ad B) (hN : 302 ≤ N) (n : Nat → Nat) (g : Nat → Nat → Int32) (z : Nat → Nat → Int32) (zn : Nat) (tb : Nat → Int32) (hR : RepX ca ad n g z zn tb f) (j : Nat) (hj : j ≤ 1000000) (ho : nI j < g 13 0) : xMi l yX5_due wsX5_due rmX5_due [.ref (ad 0), .int (nI j)] D ca N ad B tR tK f (fun r u => (-3) = r ∧ ∃ (z1 : Nat → Nat → Int32) (zn1 : Nat), RepX ca ad n g z1 zn1 tb u ∧ ∀ y, 302 ≤ y → u y = f y) := by
  refine x_open (cc := cX5_due) (maxL := 4) (ret := (some .int)) (by decide) rfl (Nat.le_of_ble_eq_true rfl) ?_
  intro p e s m below meth c ls hx hb hml hown hts hr hlocks hnm hB hK hE hw hl
  have hown : s.vm.findClass RX5 = some m.cls := hown
  have hl : lv_has ls 4 [(0, .ref (ad 0)), (1, .int (nI j))] := hl
  obtain ⟨c_0, c_1, c_2, c_3, c_4, c_5, c_6, c_7, c_8, c_9, c_90, c_91, c_92, c_93, c_94, c_95, c_96, c_97, c_98, c_99, c_300, c_301, F_kf, F_oc, F_va, F_lw, F_M, hzn, hT⟩ := hR
  have hin_6 : ∀ w ∈ u_ws RX5 TX5 13, w ∈ wsX5_due := by decide +kernel
  have hf_68 := hts (.fieldLink RX5 68 "FixityRows" "workedDay" "I") (by decide +kernel)
  have b_0 := c_0
  have b_1 := c_1
  have b_2 := c_2
  have b_3 := c_3
  have b_4 := c_4
  have b_5 := c_5
  have b_6 := c_6
  have b_7 := c_7
  have b_8 := c_8
  have b_9 := c_9
  have b_90 := c_90
  have b_91 := c_91
  have b_92 := c_92
  have b_93 := c_93
  have b_94 := c_94
  have b_95 := c_95
  have b_96 := c_96
  have b_97 := c_97
  have b_98 := c_98
  have b_99 := c_99
  have b_300 := c_300
  have b_301 := c_301
  refine lv_iload_n hx hb dX5_due_0 rfl (lv_at hl 1 rfl) ?_
  refine x_Si (As := [.int (nI j)]) (rest := []) ⟨hx, hb, hml, hown, hts⟩ (k_X5_isDay_yes l D ca N ad B tR tK f dd j   (by omega)) (va_cwS 1 hts gX5_due_X5_isDay rfl rfl rfl (by decide +kernel) ⟨Nat.le_of_ble_eq_true rfl, Nat.le_of_ble_eq_true rfl⟩) hK hE hB hw rfl rfl hl.1 (Nat.le_of_ble_eq_true rfl) ⟨Nat.zero_le _, Nat.zero_le _⟩ dX5_due_1 (fun r_2 f_1 H locs hp hw => ?_)
  obtain ⟨er, eu⟩ := hp
  rw [← er]
  rw [← eu] at hw
  refine lv_if_ne (tgt := 10) hx hb dX5_due_4 (by decide) (fun _ => ?_) (fun h => absurd h (by decide))
  refine lv_iload_n hx hb dX5_due_10 rfl (lv_at hl 1 rfl) ?_
  refine lv_aload_n hx hb dX5_due_11 rfl (lv_at hl 0 rfl) ?_
  refine x_get (ci := 6) (C := RX5) (T := TX5) (n := 13) (ref := RX5) hx hb hts hin_6 hown hK hw 0 (by omega) c_0 rfl 12 (by decide) hf_68 (fun _ h => h) rfl dX5_due_12 ?_
  refine lv_icmp_ge (tgt := 21) hx hb dX5_due_15 (by decide) (fun hc_15 => ?_) (fun hc_15 => ?_)
  · exact absurd ho (Int32.not_lt.mpr hc_15)
  · refine lv_bipush (v := (-3)) hx hb dX5_due_18 (by decide) ?_
    have hRz : RepX ca ad n g z zn tb f := ⟨c_0,
          c_1,
          c_2,
          c_3,
          c_4,
          c_5,
          c_6,
          c_7,
          c_8,
          c_9,
          c_90,
          c_91,
          c_92,
          c_93,
          c_94,
          c_95,
          c_96,
          c_97,
          c_98,
          c_99,
          c_300,
          c_301,
          (fun i9 hi9 => by exact F_kf i9 hi9),
          (fun i9 hi9 => by exact F_oc i9 hi9),
          (fun i9 hi9 => by exact F_va i9 hi9),
          (fun i9 hi9 => by exact F_lw i9 hi9),
          (fun i9 hi9 => by exact F_M i9 hi9), hzn, hT⟩
    exact x_iret hx hb hr hlocks hw ⟨rfl, z, zn, hRz, (fun _ _ => rfl)⟩ dX5_due_20

set_option maxHeartbeats 4000000 in
set_option maxRecDepth 100000 in
theorem k_X5_due_in (l : Launch) (D : va_G) (ca : Nat → ClassId) (N : Nat) (ad : Nat → Nat) (B tR tK : Nat) (f : Nat → va_E) (dd : xD N ad B) (hN : 302 ≤ N) (n : Nat → Nat) (g : Nat → Nat → Int32) (z : Nat → Nat → Int32) (zn : Nat) (tb : Nat → Int32) (hR : RepX ca ad n g z zn tb f) (j : Nat) (hj : j ≤ 1000000) (ho : ¬ nI j < g 13 0) (h0 : n 0 ≤ 20) (h2 : n 2 ≤ 20) (hsz : ∀ i, i < 20 → n (10 + i) ≤ 200) (h5 : n 5 ≤ 200) : xMi l yX5_due wsX5_due rmX5_due [.ref (ad 0), .int (nI j)] D ca N ad B tR tK f (fun r u => dueR n g (nI j) = r ∧ ∃ (z1 : Nat → Nat → Int32) (zn1 : Nat), RepX ca ad (((dueS n g (nI j) (n 0)).1)) (((dueS n g (nI j) (n 0)).2)) z1 zn1 tb u ∧ ∀ y, 302 ≤ y → u y = f y) := by
  refine x_open (cc := cX5_due) (maxL := 4) (ret := (some .int)) (by decide) rfl (Nat.le_of_ble_eq_true rfl) ?_
  intro p e s m below meth c ls hx hb hml hown hts hr hlocks hnm hB hK hE hw hl
  have hown : s.vm.findClass RX5 = some m.cls := hown
  have hl : lv_has ls 4 [(0, .ref (ad 0)), (1, .int (nI j))] := hl
  obtain ⟨c_0, c_1, c_2, c_3, c_4, c_5, c_6, c_7, c_8, c_9, c_90, c_91, c_92, c_93, c_94, c_95, c_96, c_97, c_98, c_99, c_300, c_301, F_kf, F_oc, F_va, F_lw, F_M, hzn, hT⟩ := hR
  have hin_6 : ∀ w ∈ u_ws RX5 TX5 13, w ∈ wsX5_due := by decide +kernel
  have hf_150 := hts (.fieldLink RX5 150 "FixityRows" "checkedCount" "I") (by decide +kernel)
  have hf_18 := hts (.fieldLink RX5 18 "FixityRows" "capacity" "I") (by decide +kernel)
  have hf_61 := hts (.fieldLink RX5 61 "FixityRows" "checkedFiles" "[I") (by decide +kernel)
  have hf_64 := hts (.fieldLink RX5 64 "FixityRows" "checkedFits" "[Z") (by decide +kernel)
  have hf_49 := hts (.fieldLink RX5 49 "FixityRows" "files" "[LFixityRows$KeptFile;") (by decide +kernel)
  have hf_68 := hts (.fieldLink RX5 68 "FixityRows" "workedDay" "I") (by decide +kernel)
  have b_0 := c_0
  have b_1 := c_1
  have b_2 := c_2
  have b_3 := c_3
  have b_4 := c_4
  have b_5 := c_5
  have b_6 := c_6
  have b_7 := c_7
  have b_8 := c_8
  have b_9 := c_9
  have b_90 := c_90
  have b_91 := c_91
  have b_92 := c_92
  have b_93 := c_93
  have b_94 := c_94
  have b_95 := c_95
  have b_96 := c_96
  have b_97 := c_97
  have b_98 := c_98
  have b_99 := c_99
  have b_300 := c_300
  have b_301 := c_301
  have P_97 : ∀ (fc : Nat → va_E) (zc : Nat → Nat → Int32) (znc : Nat) (H : Heap) (locs : List Loc) (ls : Array Slot), RepX ca ad ((dueS n g (nI j) (n 0)).1) ((dueS n g (nI j) (n 0)).2) zc znc tb fc → (∀ y, 302 ≤ y → fc y = f y) → xw D vwCl N ad B s.heap fc H locs → lv_has ls 4 [(0, .ref (ad 0)), (1, .int (nI j))] → W p l e rmX5_due s m ([.ref (ad 0), .int (nI j)] : List Value).toArray below meth c H locs 0 0 (MQ below (xQi (fun r u => dueR n g (nI j) = r ∧ ∃ (z1 : Nat → Nat → Int32) (zn1 : Nat), RepX ca ad (((dueS n g (nI j) (n 0)).1)) (((dueS n g (nI j) (n 0)).2)) z1 zn1 tb u ∧ ∀ y, 302 ≤ y → u y = f y) D N ad B) ([.ref (ad 0), .int (nI j)] : List Value).toArray s 0 0 (xA B)) (F0 m 97 ls []) := by
    intro fc zc znc H locs ls hRc hfr hw hl
    obtain ⟨n_1, en_1⟩ : ∃ x, x = (dueS n g (nI j) (n 0)).1 := ⟨_, rfl⟩
    obtain ⟨g_2, eg_2⟩ : ∃ x, x = (dueS n g (nI j) (n 0)).2 := ⟨_, rfl⟩
    rw [← en_1, ← eg_2] at hRc
    obtain ⟨c_0, c_1, c_2, c_3, c_4, c_5, c_6, c_7, c_8, c_9, c_90, c_91, c_92, c_93, c_94, c_95, c_96, c_97, c_98, c_99, c_300, c_301, F_kf, F_oc, F_va, F_lw, F_M, hzn, hT⟩ := hRc
    obtain ⟨d0, d2, dz, d5⟩ := dueS_facts (n := n) (g := g) (y := nI j) h5 (n 0)
    rw [← en_1] at d0 d2 dz d5
    refine lv_aload_n hx hb dX5_due_97 rfl (lv_at hl 0 rfl) ?_
    refine lv_iload_n hx hb dX5_due_98 rfl (lv_at hl 1 rfl) ?_
    have hRk : RepX ca ad n_1 g_2 zc znc tb fc := ⟨c_0,
          c_1,
          c_2,
          c_3,
          c_4,
          c_5,
          c_6,
          c_7,
          c_8,
          c_9,
          c_90,
          c_91,
          c_92,
          c_93,
          c_94,
          c_95,
          c_96,
          c_97,
          c_98,
          c_99,
          c_300,
          c_301,
          (fun i9 hi9 => by exact F_kf i9 hi9),
          (fun i9 hi9 => by exact F_oc i9 hi9),
          (fun i9 hi9 => by exact F_va i9 hi9),
          (fun i9 hi9 => by exact F_lw i9 hi9),
          (fun i9 hi9 => by exact F_M i9 hi9), hzn, hT⟩
    have hfr : ∀ y, 302 ≤ y → fc y = f y := (fun y hy => hfr y hy)
    refine x_Vi (q := 0) (As := [.int (nI j)]) (rest := []) ⟨hx, hb, hml, hown, hts⟩ (k_X5_countWaiting l D ca N ad B tR tK fc dd hN n_1 g_2 zc znc tb hRk (nI j) (by omega)) (cwV 1 hts gX5_due_X5_countWaiting rfl rfl rfl (by decide +kernel) ⟨Nat.le_of_ble_eq_true rfl, Nat.le_of_ble_eq_true rfl⟩) hK hE hB hw (by omega) c_0 rfl rfl rfl rfl hl.1 (Nat.le_of_ble_eq_true rfl) ⟨Nat.zero_le _, Nat.zero_le _⟩ dX5_due_99 (fun r_4 f_3 H locs hp hw => ?_)
    obtain ⟨er, hp⟩ := hp
    rw [← er]
    rw [← hp] at hw
    refine lv_istore_n (lv' := [(2, .int (nI (cwF g_2 (nI j) (n_1 2)))), (0, .ref (ad 0)), (1, .int (nI j))]) hx hb dX5_due_102 rfl hl (by decide) rfl (fun ls hl => ?_)
    refine lv_iload_n hx hb dX5_due_103 rfl (lv_at hl 0 rfl) ?_
    refine lv_if_ne (tgt := 114) hx hb dX5_due_104 (by decide) (fun hc_104 => ?_) (fun hc_104 => ?_)
    · have hz9 : ¬ cwF g_2 (nI j) (n_1 2) = 0 := fun q => hc_104 (by rw [q]; rfl)
      refine lv_bipush (v := (-10)) hx hb dX5_due_114 (by decide) ?_
      refine lv_iload_n hx hb dX5_due_116 rfl (lv_at hl 0 rfl) ?_
      refine lv_isub hx hb dX5_due_117 ?_
      have hRz : RepX ca ad n_1 g_2 zc znc tb fc := ⟨c_0,
            c_1,
            c_2,
            c_3,
            c_4,
            c_5,
            c_6,
            c_7,
            c_8,
            c_9,
            c_90,
            c_91,
            c_92,
            c_93,
            c_94,
            c_95,
            c_96,
            c_97,
            c_98,
            c_99,
            c_300,
            c_301,
            (fun i9 hi9 => by exact F_kf i9 hi9),
            (fun i9 hi9 => by exact F_oc i9 hi9),
            (fun i9 hi9 => by exact F_va i9 hi9),
            (fun i9 hi9 => by exact F_lw i9 hi9),
            (fun i9 hi9 => by exact F_M i9 hi9), hzn, hT⟩
      exact x_iret hx hb hr hlocks hw ⟨(by unfold dueR; rw [← en_1, ← eg_2, ← d2]; first | rw [if_pos hz9] | rw [if_neg hz9]), zc, znc, (by rw [eg_2, en_1] at hRz; exact hRz), (fun y hy => hfr y hy)⟩ dX5_due_118
    · have hz9 : cwF g_2 (nI j) (n_1 2) = 0 := (nI_eq (by have := cwF_le g_2 (nI j) (n_1 2); omega) (by decide)).mp hc_104
      refine lv_aload_n hx hb dX5_due_107 rfl (lv_at hl 1 rfl) ?_
      refine x_get (ci := 6) (C := RX5) (T := TX5) (n := 13) (ref := RX5) hx hb hts hin_6 hown hK hw 0 (by omega) c_0 rfl 11 (by decide) hf_150 (fun _ h => h) rfl dX5_due_108 ?_
      refine lv_goto (tgt := 118) hx hb dX5_due_111 (by decide) ?_
      have hRz : RepX ca ad n_1 g_2 zc znc tb fc := ⟨c_0,
            c_1,
            c_2,
            c_3,
            c_4,
            c_5,
            c_6,
            c_7,
            c_8,
            c_9,
            c_90,
            c_91,
            c_92,
            c_93,
            c_94,
            c_95,
            c_96,
            c_97,
            c_98,
            c_99,
            c_300,
            c_301,
            (fun i9 hi9 => by exact F_kf i9 hi9),
            (fun i9 hi9 => by exact F_oc i9 hi9),
            (fun i9 hi9 => by exact F_va i9 hi9),
            (fun i9 hi9 => by exact F_lw i9 hi9),
            (fun i9 hi9 => by exact F_M i9 hi9), hzn, hT⟩
      exact x_iret hx hb hr hlocks hw ⟨(by unfold dueR; rw [← en_1, ← eg_2, ← d2]; first | rw [if_pos hz9] | rw [if_neg hz9]), zc, znc, (by rw [eg_2, en_1] at hRz; exact hRz), (fun y hy => hfr y hy)⟩ dX5_due_118
  have P_33 : ∀ (n_33 : Nat) (k : Nat) (fc : Nat → va_E) (zc : Nat → Nat → Int32) (znc : Nat) (H : Heap) (locs : List Loc) (ls : Array Slot), n 0 + 1 ≤ k + n_33 → (k ≤ n 0) → RepX ca ad ((dueS n g (nI j) k).1) ((dueS n g (nI j) k).2) zc znc tb fc → (∀ y, 302 ≤ y → fc y = f y) → xw D vwCl N ad B s.heap fc H locs → lv_has ls 4 [(0, .ref (ad 0)), (1, .int (nI j)), (2, .int (nI k))] → W p l e rmX5_due s m ([.ref (ad 0), .int (nI j)] : List Value).toArray below meth c H locs 0 0 (MQ below (xQi (fun r u => dueR n g (nI j) = r ∧ ∃ (z1 : Nat → Nat → Int32) (zn1 : Nat), RepX ca ad (((dueS n g (nI j) (n 0)).1)) (((dueS n g (nI j) (n 0)).2)) z1 zn1 tb u ∧ ∀ y, 302 ≤ y → u y = f y) D N ad B) ([.ref (ad 0), .int (nI j)] : List Value).toArray s 0 0 (xA B)) (F0 m 33 ls []) := by
    intro n_33
    induction n_33 with
    | zero =>
      intro k fc zc znc H locs ls hm_33 hk hRc hfr hw hl
      exact absurd hm_33 (by omega)
    | succ n_33 ih_33 =>
      intro k fc zc znc H locs ls hm_33 hk hRc hfr hw hl
      obtain ⟨n_5, en_5⟩ : ∃ x, x = (dueS n g (nI j) k).1 := ⟨_, rfl⟩
      obtain ⟨g_6, eg_6⟩ : ∃ x, x = (dueS n g (nI j) k).2 := ⟨_, rfl⟩
      rw [← en_5, ← eg_6] at hRc
      obtain ⟨c_0, c_1, c_2, c_3, c_4, c_5, c_6, c_7, c_8, c_9, c_90, c_91, c_92, c_93, c_94, c_95, c_96, c_97, c_98, c_99, c_300, c_301, F_kf, F_oc, F_va, F_lw, F_M, hzn, hT⟩ := hRc
      obtain ⟨d0, d2, dz, d5⟩ := dueS_facts (n := n) (g := g) (y := nI j) h5 k
      rw [← en_5] at d0 d2 dz d5
      refine lv_iload_n hx hb dX5_due_33 rfl (lv_at hl 2 rfl) ?_
      refine lv_aload_n hx hb dX5_due_34 rfl (lv_at hl 0 rfl) ?_
      refine x_get (ci := 6) (C := RX5) (T := TX5) (n := 13) (ref := RX5) hx hb hts hin_6 hown hK hw 0 (by omega) c_0 rfl 0 (by decide) hf_18 (fun _ h => h) rfl dX5_due_35 ?_
      refine n_icge (tgt := 97) hx hb dX5_due_38 (by decide) (by omega) (by omega) (fun hc_38 => ?_) (fun hc_38 => ?_)
      · have hRk : RepX ca ad n_5 g_6 zc znc tb fc := ⟨c_0,
              c_1,
              c_2,
              c_3,
              c_4,
              c_5,
              c_6,
              c_7,
              c_8,
              c_9,
              c_90,
              c_91,
              c_92,
              c_93,
              c_94,
              c_95,
              c_96,
              c_97,
              c_98,
              c_99,
              c_300,
              c_301,
              (fun i9 hi9 => by exact F_kf i9 hi9),
              (fun i9 hi9 => by exact F_oc i9 hi9),
              (fun i9 hi9 => by exact F_va i9 hi9),
              (fun i9 hi9 => by exact F_lw i9 hi9),
              (fun i9 hi9 => by exact F_M i9 hi9), hzn, hT⟩
        have hfr : ∀ y, 302 ≤ y → fc y = f y := (fun y hy => hfr y hy)
        have hRk : RepX ca ad ((dueS n g (nI j) (n 0)).1) ((dueS n g (nI j) (n 0)).2) zc znc tb fc := by have ek : k = n 0 := (by omega); rw [← ek, ← en_5, ← eg_6]; exact hRk
        exact P_97  _ _ _ _ _ _  hRk hfr hw (lv_sub hl [0, 1] rfl)
      · refine lv_aload_n hx hb dX5_due_41 rfl (lv_at hl 0 rfl) ?_
        refine lv_iload_n hx hb dX5_due_42 rfl (lv_at hl 1 rfl) ?_
        have hRk : RepX ca ad n_5 g_6 zc znc tb fc := ⟨c_0,
              c_1,
              c_2,
              c_3,
              c_4,
              c_5,
              c_6,
              c_7,
              c_8,
              c_9,
              c_90,
              c_91,
              c_92,
              c_93,
              c_94,
              c_95,
              c_96,
              c_97,
              c_98,
              c_99,
              c_300,
              c_301,
              (fun i9 hi9 => by exact F_kf i9 hi9),
              (fun i9 hi9 => by exact F_oc i9 hi9),
              (fun i9 hi9 => by exact F_va i9 hi9),
              (fun i9 hi9 => by exact F_lw i9 hi9),
              (fun i9 hi9 => by exact F_M i9 hi9), hzn, hT⟩
        have hfr : ∀ y, 302 ≤ y → fc y = f y := (fun y hy => hfr y hy)
        refine x_Vi (q := 0) (As := [.int (nI j)]) (rest := []) ⟨hx, hb, hml, hown, hts⟩ (k_X5_longestWaiting l D ca N ad B tR tK fc dd hN n_5 g_6 zc znc tb hRk (nI j) (by omega)) (cwV 1 hts gX5_due_X5_longestWaiting rfl rfl rfl (by decide +kernel) ⟨Nat.le_of_ble_eq_true rfl, Nat.le_of_ble_eq_true rfl⟩) hK hE hB hw (by omega) c_0 rfl rfl rfl rfl hl.1 (Nat.le_of_ble_eq_true rfl) ⟨Nat.zero_le _, Nat.zero_le _⟩ dX5_due_43 (fun r_8 f_7 H locs hp hw => ?_)
        obtain ⟨er, hp⟩ := hp
        rw [← er]
        rw [← hp] at hw
        refine lv_topi (fun x_9 ex_9 => ?_)
        refine lv_istore_n (lv' := [(3, .int x_9), (0, .ref (ad 0)), (1, .int (nI j)), (2, .int (nI k))]) hx hb dX5_due_46 rfl hl (by decide) rfl (fun ls hl => ?_)
        refine lv_iload_n hx hb dX5_due_47 rfl (lv_at hl 0 rfl) ?_
        refine lv_iconst (v := (-1)) hx hb dX5_due_48 (by decide) ?_
        refine lv_icmp_ne (tgt := 55) hx hb dX5_due_49 (by decide) (fun hc_49 => ?_) (fun hc_49 => ?_)
        · obtain ⟨j9, ej9⟩ := oI_some (show ¬ oI (lwF g_6 (nI j) (n_5 2)) = -1 by rw [← ex_9]; exact hc_49)
          have hj9 := lwF_lt _ _ _ _ ej9
          have hj8 := lwF_waits _ _ _ _ ej9
          have ex9 : x_9 = nI j9 := by rw [ex_9, ej9]; rfl
          rw [ex9] at hl
          refine lv_aload_n hx hb dX5_due_55 rfl (lv_at hl 1 rfl) ?_
          refine x_get (ci := 6) (C := RX5) (T := TX5) (n := 13) (ref := RX5) hx hb hts hin_6 hown hK hw 0 (by omega) c_0 rfl 9 (by decide) hf_61 (fun _ h => h) rfl dX5_due_56 ?_
          refine lv_iload_n hx hb dX5_due_59 rfl (lv_at hl 3 rfl) ?_
          refine lv_iload_n hx hb dX5_due_60 rfl (lv_at hl 0 rfl) ?_
          refine x_iast (j := k) hx hb hK dd hw 300 0 (by omega) c_300 rfl rfl (by omega) (by decide) dX5_due_61 (fun H locs hw => ?_)
          obtain ⟨f_10, ef_10⟩ : ∃ z, z = va_up fc 300 (ai (ca 0) 20 (upd (g_6 2) k (nI j9))) := ⟨_, rfl⟩
          have hw : xw D vwCl N ad B s.heap f_10 H locs := by rw [ef_10]; exact hw
          have c_300 : f_10 300 = ai (ca 0) 20 (upd (g_6 2) k (nI j9)) := va_up_of ef_10
          refine lv_aload_n hx hb dX5_due_62 rfl (lv_at hl 1 rfl) ?_
          have c_0 : f_10 0 = .inr (6, [.int (nI (n_5 0)), .ref (ad 1), .ref (ad 4), .ref (ad 6), .ref (ad 8), .int (nI (n_5 1)), .ref (ad 9), .int (nI (n_5 2)), .ref (ad 90), .ref (ad 300), .ref (ad 301), .int (nI (n_5 3)), .int (g_6 13 0)]) := by rw [ef_10, va_up_ne _ _ (by decide)]; exact c_0
          refine x_get (ci := 6) (C := RX5) (T := TX5) (n := 13) (ref := RX5) hx hb hts hin_6 hown hK hw 0 (by omega) c_0 rfl 10 (by decide) hf_64 (fun _ h => h) rfl dX5_due_63 ?_
          refine lv_iload_n hx hb dX5_due_66 rfl (lv_at hl 3 rfl) ?_
          rcases (show (fitsX n_5 (va_up g_6 2 (upd (g_6 2) k (nI j9))) j9 j9 ∧ n_5 5 < 200) ∨ (fitsX n_5 (va_up g_6 2 (upd (g_6 2) k (nI j9))) j9 j9 ∧ n_5 5 = 200) ∨ (¬ fitsX n_5 (va_up g_6 2 (upd (g_6 2) k (nI j9))) j9 j9 ∧ n_5 5 < 200) ∨ (¬ fitsX n_5 (va_up g_6 2 (upd (g_6 2) k (nI j9))) j9 j9 ∧ n_5 5 = 200) from (Classical.em (fitsX n_5 (va_up g_6 2 (upd (g_6 2) k (nI j9))) j9 j9)).elim (fun a => (show n_5 5 < 200 ∨ n_5 5 = 200 by omega).elim (fun b => Or.inl ⟨a, b⟩) (fun b => Or.inr (Or.inl ⟨a, b⟩))) (fun a => (show n_5 5 < 200 ∨ n_5 5 = 200 by omega).elim (fun b => Or.inr (Or.inr (Or.inl ⟨a, b⟩))) (fun b => Or.inr (Or.inr (Or.inr ⟨a, b⟩))))) with ⟨hf9, hr9⟩ | ⟨hf9, hr9⟩ | ⟨hf9, hr9⟩ | ⟨hf9, hr9⟩
          · refine lv_aload_n hx hb dX5_due_67 rfl (lv_at hl 1 rfl) ?_
            refine lv_iload_n hx hb dX5_due_68 rfl (lv_at hl 0 rfl) ?_
            refine lv_iload_n hx hb dX5_due_69 rfl (lv_at hl 2 rfl) ?_
            have c_1 : f_10 1 = .inr (2, [.ref (ad 2), .ref (ad 3)]) := by rw [ef_10, va_up_ne _ _ (by decide)]; exact c_1
            have c_2 : f_10 2 = ai (ca 0) 8 (zc 0) := by rw [ef_10, va_up_ne _ _ (by decide)]; exact c_2
            have c_3 : f_10 3 = ai (ca 0) 64 (zc 1) := by rw [ef_10, va_up_ne _ _ (by decide)]; exact c_3
            have c_4 : f_10 4 = .inr (5, [.ref (ad 5)]) := by rw [ef_10, va_up_ne _ _ (by decide)]; exact c_4
            have c_5 : f_10 5 = ai (ca 0) 256 tb := by rw [ef_10, va_up_ne _ _ (by decide)]; exact c_5
            have c_6 : f_10 6 = .inr (3, [.ref (ad 7), .int (nI (n_5 4))]) := by rw [ef_10, va_up_ne _ _ (by decide)]; exact c_6
            have c_7 : f_10 7 = ai (ca 0) 200 (g_6 0) := by rw [ef_10, va_up_ne _ _ (by decide)]; exact c_7
            have c_8 : f_10 8 = ai (ca 0) 8 (g_6 1) := by rw [ef_10, va_up_ne _ _ (by decide)]; exact c_8
            have c_9 : f_10 9 = aq (ca 3) 20 (fun i => some (ad (10 + 4 * i))) := by rw [ef_10, va_up_ne _ _ (by decide)]; exact c_9
            have c_90 : f_10 90 = .inr (4, [.ref (ad 91), .ref (ad 94), .ref (ad 96), .ref (ad 97), .ref (ad 98), .ref (ad 99), .int (nI (n_5 5))]) := by rw [ef_10, va_up_ne _ _ (by decide)]; exact c_90
            have c_91 : f_10 91 = .inr (2, [.ref (ad 92), .ref (ad 93)]) := by rw [ef_10, va_up_ne _ _ (by decide)]; exact c_91
            have c_92 : f_10 92 = ai (ca 0) 8 (zc 2) := by rw [ef_10, va_up_ne _ _ (by decide)]; exact c_92
            have c_93 : f_10 93 = ai (ca 0) 64 (zc 3) := by rw [ef_10, va_up_ne _ _ (by decide)]; exact c_93
            have c_94 : f_10 94 = .inr (3, [.ref (ad 95), .int (nI znc)]) := by rw [ef_10, va_up_ne _ _ (by decide)]; exact c_94
            have c_95 : f_10 95 = ai (ca 0) 200 (zc 4) := by rw [ef_10, va_up_ne _ _ (by decide)]; exact c_95
            have c_96 : f_10 96 = ai (ca 0) 200 (g_6 4) := by rw [ef_10, va_up_ne _ _ (by decide)]; exact c_96
            have c_97 : f_10 97 = ai (ca 0) 200 (g_6 5) := by rw [ef_10, va_up_ne _ _ (by decide)]; exact c_97
            have c_98 : f_10 98 = ai (ca 0) 200 (g_6 6) := by rw [ef_10, va_up_ne _ _ (by decide)]; exact c_98
            have c_99 : f_10 99 = aq (ca 4) 200 (fun i => some (ad (100 + i))) := by rw [ef_10, va_up_ne _ _ (by decide)]; exact c_99
            have c_301 : f_10 301 = ai (ca 2) 20 (g_6 3) := by rw [ef_10, va_up_ne _ _ (by decide)]; exact c_301
            have qg_0 : (va_up g_6 2 (upd (g_6 2) k (nI j9))) 0 = g_6 0 := by rw [va_up_ne _ _ (by decide)]
            have qg_1 : (va_up g_6 2 (upd (g_6 2) k (nI j9))) 1 = g_6 1 := by rw [va_up_ne _ _ (by decide)]
            have qg_2 : (va_up g_6 2 (upd (g_6 2) k (nI j9))) 2 = upd (g_6 2) k (nI j9) := by rw [va_up_self]
            have qg_3 : (va_up g_6 2 (upd (g_6 2) k (nI j9))) 3 = g_6 3 := by rw [va_up_ne _ _ (by decide)]
            have qg_4 : (va_up g_6 2 (upd (g_6 2) k (nI j9))) 4 = g_6 4 := by rw [va_up_ne _ _ (by decide)]
            have qg_5 : (va_up g_6 2 (upd (g_6 2) k (nI j9))) 5 = g_6 5 := by rw [va_up_ne _ _ (by decide)]
            have qg_6 : (va_up g_6 2 (upd (g_6 2) k (nI j9))) 6 = g_6 6 := by rw [va_up_ne _ _ (by decide)]
            have qg_7 : (va_up g_6 2 (upd (g_6 2) k (nI j9))) 7 = g_6 7 := by rw [va_up_ne _ _ (by decide)]
            have qg_8 : (va_up g_6 2 (upd (g_6 2) k (nI j9))) 8 = g_6 8 := by rw [va_up_ne _ _ (by decide)]
            have qg_9 : (va_up g_6 2 (upd (g_6 2) k (nI j9))) 9 = g_6 9 := by rw [va_up_ne _ _ (by decide)]
            have qg_10 : (va_up g_6 2 (upd (g_6 2) k (nI j9))) 10 = g_6 10 := by rw [va_up_ne _ _ (by decide)]
            have qg_11 : (va_up g_6 2 (upd (g_6 2) k (nI j9))) 11 = g_6 11 := by rw [va_up_ne _ _ (by decide)]
            have qg_12 : (va_up g_6 2 (upd (g_6 2) k (nI j9))) 12 = g_6 12 := by rw [va_up_ne _ _ (by decide)]
            have qg_13 : (va_up g_6 2 (upd (g_6 2) k (nI j9))) 13 = g_6 13 := by rw [va_up_ne _ _ (by decide)]
            have hRk : RepX ca ad n_5 (va_up g_6 2 (upd (g_6 2) k (nI j9))) zc znc tb f_10 := ⟨(by rw [qg_13]; exact c_0),
                  c_1,
                  c_2,
                  c_3,
                  c_4,
                  c_5,
                  c_6,
                  (by rw [qg_0]; exact c_7),
                  (by rw [qg_1]; exact c_8),
                  c_9,
                  c_90,
                  c_91,
                  c_92,
                  c_93,
                  c_94,
                  c_95,
                  (by rw [qg_4]; exact c_96),
                  (by rw [qg_5]; exact c_97),
                  (by rw [qg_6]; exact c_98),
                  c_99,
                  (by rw [qg_2]; exact c_300),
                  (by rw [qg_3]; exact c_301),
                  (fun i9 hi9 => by rw [qg_7, qg_8, qg_9, qg_10, qg_11, qg_12]; rw [ef_10, va_up_ne _ _ (by omega)]; exact F_kf i9 hi9),
                  (fun i9 hi9 => by rw [ef_10, va_up_ne _ _ (by omega)]; exact F_oc i9 hi9),
                  (fun i9 hi9 => by rw [va_up_ne _ _ (by omega)]; rw [ef_10, va_up_ne _ _ (by omega)]; exact F_va i9 hi9),
                  (fun i9 hi9 => by rw [va_up_ne _ _ (by omega)]; rw [ef_10, va_up_ne _ _ (by omega)]; exact F_lw i9 hi9),
                  (fun i9 hi9 => by rw [va_up_ne _ _ (by omega)]; rw [ef_10, va_up_ne _ _ (by omega)]; exact F_M i9 hi9), hzn, hT⟩
            have hfr : ∀ y, 302 ≤ y → f_10 y = f y := (fun y hy => by rw [ef_10, va_up_ne _ _ (by omega)]; exact hfr y hy)
            refine x_Vi (q := 0) (As := [.int (nI j9), .int (nI j)]) (rest := [.int (nI k), .ref (ad 301)]) ⟨hx, hb, hml, hown, hts⟩ (k_X5_check_fit l D ca N ad B tR tK f_10 dd hN n_5 (va_up g_6 2 (upd (g_6 2) k (nI j9))) zc znc tb hRk j9 (nI j) (by omega) (fun i hi => by rw [dz i]; exact hsz i hi) hr9 hf9) (cwV 2 hts gX5_due_X5_check rfl rfl rfl (by decide +kernel) ⟨Nat.le_of_ble_eq_true rfl, Nat.le_of_ble_eq_true rfl⟩) hK hE hB hw (by omega) c_0 rfl rfl rfl rfl hl.1 (Nat.le_of_ble_eq_true rfl) ⟨Nat.zero_le _, Nat.zero_le _⟩ dX5_due_70 (fun r_12 f_11 H locs hp hw => ?_)
            obtain ⟨er, hp⟩ := hp
            rw [← er]
            obtain ⟨z_13, zn_14, hR2, hfr2⟩ := hp
            obtain ⟨n_15, en_15⟩ : ∃ x, x = va_up n_5 5 ((n_5 5) + 1) := ⟨_, rfl⟩
            obtain ⟨g_16, eg_16⟩ : ∃ x, x = va_up (va_up (va_up (va_up (va_up (va_up g_6 2 (upd (g_6 2) k (nI j9))) 4 (upd ((va_up g_6 2 (upd (g_6 2) k (nI j9))) 4) (n_5 5) (nI 1))) 5 (upd ((va_up g_6 2 (upd (g_6 2) k (nI j9))) 5) (n_5 5) (nI j9))) 6 (upd ((va_up g_6 2 (upd (g_6 2) k (nI j9))) 6) (n_5 5) (nI j))) 9 (upd ((va_up g_6 2 (upd (g_6 2) k (nI j9))) 9) j9 (nI j))) (1000 + (n_5 5)) (rowD (prevD (fun i8 => (va_up g_6 2 (upd (g_6 2) k (nI j9))) (1000 + i8)) (n_5 5)) (nI 1) (nI j9) (nI j)) := ⟨_, rfl⟩
            rw [← en_15, ← eg_16] at hR2
            have hfr : ∀ y, 302 ≤ y → f_11 y = f y := fun y hy => (hfr2 y hy).trans (hfr y hy)
            obtain ⟨c_0, c_1, c_2, c_3, c_4, c_5, c_6, c_7, c_8, c_9, c_90, c_91, c_92, c_93, c_94, c_95, c_96, c_97, c_98, c_99, c_300, c_301, F_kf, F_oc, F_va, F_lw, F_M, hzn, hT⟩ := hR2
            obtain ⟨q1, q2, q3⟩ := chkG_fit (y := nI j) hf9 hr9
            have eC : g_16 = chkG n_5 (va_up g_6 2 (upd (g_6 2) k (nI j9))) j9 (nI j) := by rw [q1]; exact eg_16
            have eN : n_15 = appN n_5 := by rw [q2]; exact en_15
            have d0 : n_15 0 = n 0 := by rw [eN, appN_at (by decide)]; exact d0
            refine x_zast (j := k) hx hb hK dd hw 301 2 (by omega) c_301 rfl rfl (by omega) (by decide) (by first | exact Or.inl rfl | exact Or.inr rfl) dX5_due_73 (fun H locs hw => ?_)
            obtain ⟨f_17, ef_17⟩ : ∃ z, z = va_up f_11 301 (ai (ca 2) 20 (upd (g_16 3) k (nI 1))) := ⟨_, rfl⟩
            have hw : xw D vwCl N ad B s.heap f_17 H locs := by rw [ef_17]; exact hw
            have c_301 : f_17 301 = ai (ca 2) 20 (upd (g_16 3) k (nI 1)) := va_up_of ef_17
            refine lv_aload_n hx hb dX5_due_74 rfl (lv_at hl 1 rfl) ?_
            refine lv_iload_n hx hb dX5_due_75 rfl (lv_at hl 3 rfl) ?_
            refine lv_iconst (v := nI 1) hx hb dX5_due_76 (by decide) ?_
            refine n_iadd hx hb dX5_due_77 ?_
            have c_0 : f_17 0 = .inr (6, [.int (nI (n_15 0)), .ref (ad 1), .ref (ad 4), .ref (ad 6), .ref (ad 8), .int (nI (n_15 1)), .ref (ad 9), .int (nI (n_15 2)), .ref (ad 90), .ref (ad 300), .ref (ad 301), .int (nI (n_15 3)), .int (g_16 13 0)]) := by rw [ef_17, va_up_ne _ _ (by decide)]; exact c_0
            refine x_put (ci := 6) (C := RX5) (T := TX5) (n := 13) (ref := RX5) (fs' := [.int (nI (n_15 0)), .ref (ad 1), .ref (ad 4), .ref (ad 6), .ref (ad 8), .int (nI (n_15 1)), .ref (ad 9), .int (nI (n_15 2)), .ref (ad 90), .ref (ad 300), .ref (ad 301), .int (nI (k + 1)), .int (g_16 13 0)]) hx hb hts hin_6 tyX5 tyX5_ok nmX5 hown hK dd hw 0 (by omega) c_0 rfl 11 (by decide) hf_150 (fun _ h => h) rfl rfl rfl (Nat.le_of_ble_eq_true rfl) rfl dX5_due_78 (fun H locs hw => ?_)
            obtain ⟨f_18, ef_18⟩ : ∃ z, z = va_up f_17 0 (.inr (6, [.int (nI (n_15 0)), .ref (ad 1), .ref (ad 4), .ref (ad 6), .ref (ad 8), .int (nI (n_15 1)), .ref (ad 9), .int (nI (n_15 2)), .ref (ad 90), .ref (ad 300), .ref (ad 301), .int (nI (k + 1)), .int (g_16 13 0)])) := ⟨_, rfl⟩
            have hw : xw D vwCl N ad B s.heap f_18 H locs := by rw [ef_18]; exact hw
            have c_0 : f_18 0 = .inr (6, [.int (nI (n_15 0)), .ref (ad 1), .ref (ad 4), .ref (ad 6), .ref (ad 8), .int (nI (n_15 1)), .ref (ad 9), .int (nI (n_15 2)), .ref (ad 90), .ref (ad 300), .ref (ad 301), .int (nI (k + 1)), .int (g_16 13 0)]) := va_up_of ef_18
            refine lv_aload_n hx hb dX5_due_81 rfl (lv_at hl 1 rfl) ?_
            refine x_get (ci := 6) (C := RX5) (T := TX5) (n := 13) (ref := RX5) hx hb hts hin_6 hown hK hw 0 (by omega) c_0 rfl 6 (by decide) hf_49 (fun _ h => h) rfl dX5_due_82 ?_
            refine lv_iload_n hx hb dX5_due_85 rfl (lv_at hl 0 rfl) ?_
            have c_9 : f_18 9 = aq (ca 3) 20 (fun i => some (ad (10 + 4 * i))) := by rw [ef_18, va_up_ne _ _ (by decide), ef_17, va_up_ne _ _ (by decide)]; exact c_9
            refine x_aald (j := j9) (a := ad (10 + 4 * j9)) hx hb hK hw 9 3 (by omega) c_9 rfl rfl (by omega) (by decide) rfl dX5_due_86 ?_
            refine lv_iload_n hx hb dX5_due_87 rfl (lv_at hl 2 rfl) ?_
            have c_10_4_j9 : f_18 (10 + 4 * j9) = .inr (1, [.ref (ad (11 + 4 * j9)), .ref (ad (13 + 4 * j9)), .int (g_16 7 j9), .int (g_16 8 j9), .int (g_16 9 j9), .int (g_16 10 j9), .int (g_16 11 j9), .int (g_16 12 j9)]) := by rw [ef_18, va_up_ne _ _ (by omega), ef_17, va_up_ne _ _ (by omega)]; exact (F_kf j9 (by omega))
            refine x_Vv (q := 10 + 4 * j9) (As := [.int (nI j)]) (rest := []) ⟨hx, hb, hml, hown, hts⟩ (k_X0_planBehind l D ca N ad B tR tK f_18 dd (10 + 4 * j9) (11 + 4 * j9) (13 + 4 * j9) (g_16 7 j9) (g_16 8 j9) (g_16 9 j9) (g_16 10 j9) (g_16 11 j9) (g_16 12 j9) (nI j) (by omega) c_10_4_j9  (by rw [eC, chkG_at (by decide) (by decide) (by decide) (by decide) (by decide)]; exact hj8.1) (by rw [eC, chkG_at (by decide) (by decide) (by decide) (by decide) (by decide)]; exact hj8.2)) (cwV 1 hts gX5_due_X0_planBehind rfl rfl rfl (by decide +kernel) ⟨Nat.le_of_ble_eq_true rfl, Nat.le_of_ble_eq_true rfl⟩) hK hE hB hw (by omega) c_10_4_j9 rfl rfl rfl rfl hl.1 (Nat.le_of_ble_eq_true rfl) ⟨Nat.zero_le _, Nat.zero_le _⟩ dX5_due_88 (fun f_19 H locs hp hw => ?_)
            have eu := hp
            have ef_19 : f_19 = va_up f_18 (10 + 4 * j9) (.inr (1, [.ref (ad (11 + 4 * j9)), .ref (ad (13 + 4 * j9)), .int (g_16 7 j9), .int (g_16 8 j9), .int (g_16 9 j9), .int ((g_16 10 j9) + (((nI j) - (g_16 10 j9)) / (g_16 11 j9) + nI 1) * (g_16 11 j9)), .int (g_16 11 j9), .int (g_16 12 j9)])) := eu
            have c_10_4_j9 : f_19 (10 + 4 * j9) = .inr (1, [.ref (ad (11 + 4 * j9)), .ref (ad (13 + 4 * j9)), .int (g_16 7 j9), .int (g_16 8 j9), .int (g_16 9 j9), .int ((g_16 10 j9) + (((nI j) - (g_16 10 j9)) / (g_16 11 j9) + nI 1) * (g_16 11 j9)), .int (g_16 11 j9), .int (g_16 12 j9)]) := by rw [ef_19, va_up_self]
            refine lv_iinc (v := nI (k + 1)) (lv' := [(2, .int (nI (k + 1))), (3, .int (nI j9)), (0, .ref (ad 0)), (1, .int (nI j))]) hx hb dX5_due_91 hl (k := 3) rfl (by rw [show Int32.ofInt 1 = nI 1 from rfl]; exact nI_add _ _) (by decide) rfl (fun ls hl => ?_)
            refine lv_goto (tgt := 33) hx hb dX5_due_94 (by decide) ?_
            have c_0 : f_19 0 = .inr (6, [.int (nI (n_15 0)), .ref (ad 1), .ref (ad 4), .ref (ad 6), .ref (ad 8), .int (nI (n_15 1)), .ref (ad 9), .int (nI (n_15 2)), .ref (ad 90), .ref (ad 300), .ref (ad 301), .int (nI (k + 1)), .int (g_16 13 0)]) := by rw [ef_19, va_up_ne _ _ (by omega)]; exact c_0
            have c_1 : f_19 1 = .inr (2, [.ref (ad 2), .ref (ad 3)]) := by rw [ef_19, va_up_ne _ _ (by omega), ef_18, va_up_ne _ _ (by decide), ef_17, va_up_ne _ _ (by decide)]; exact c_1
            have c_2 : f_19 2 = ai (ca 0) 8 (z_13 0) := by rw [ef_19, va_up_ne _ _ (by omega), ef_18, va_up_ne _ _ (by decide), ef_17, va_up_ne _ _ (by decide)]; exact c_2
            have c_3 : f_19 3 = ai (ca 0) 64 (z_13 1) := by rw [ef_19, va_up_ne _ _ (by omega), ef_18, va_up_ne _ _ (by decide), ef_17, va_up_ne _ _ (by decide)]; exact c_3
            have c_4 : f_19 4 = .inr (5, [.ref (ad 5)]) := by rw [ef_19, va_up_ne _ _ (by omega), ef_18, va_up_ne _ _ (by decide), ef_17, va_up_ne _ _ (by decide)]; exact c_4
            have c_5 : f_19 5 = ai (ca 0) 256 tb := by rw [ef_19, va_up_ne _ _ (by omega), ef_18, va_up_ne _ _ (by decide), ef_17, va_up_ne _ _ (by decide)]; exact c_5
            have c_6 : f_19 6 = .inr (3, [.ref (ad 7), .int (nI (n_15 4))]) := by rw [ef_19, va_up_ne _ _ (by omega), ef_18, va_up_ne _ _ (by decide), ef_17, va_up_ne _ _ (by decide)]; exact c_6
            have c_7 : f_19 7 = ai (ca 0) 200 (g_16 0) := by rw [ef_19, va_up_ne _ _ (by omega), ef_18, va_up_ne _ _ (by decide), ef_17, va_up_ne _ _ (by decide)]; exact c_7
            have c_8 : f_19 8 = ai (ca 0) 8 (g_16 1) := by rw [ef_19, va_up_ne _ _ (by omega), ef_18, va_up_ne _ _ (by decide), ef_17, va_up_ne _ _ (by decide)]; exact c_8
            have c_9 : f_19 9 = aq (ca 3) 20 (fun i => some (ad (10 + 4 * i))) := by rw [ef_19, va_up_ne _ _ (by omega)]; exact c_9
            have c_90 : f_19 90 = .inr (4, [.ref (ad 91), .ref (ad 94), .ref (ad 96), .ref (ad 97), .ref (ad 98), .ref (ad 99), .int (nI (n_15 5))]) := by rw [ef_19, va_up_ne _ _ (by omega), ef_18, va_up_ne _ _ (by decide), ef_17, va_up_ne _ _ (by decide)]; exact c_90
            have c_91 : f_19 91 = .inr (2, [.ref (ad 92), .ref (ad 93)]) := by rw [ef_19, va_up_ne _ _ (by omega), ef_18, va_up_ne _ _ (by decide), ef_17, va_up_ne _ _ (by decide)]; exact c_91
            have c_92 : f_19 92 = ai (ca 0) 8 (z_13 2) := by rw [ef_19, va_up_ne _ _ (by omega), ef_18, va_up_ne _ _ (by decide), ef_17, va_up_ne _ _ (by decide)]; exact c_92
            have c_93 : f_19 93 = ai (ca 0) 64 (z_13 3) := by rw [ef_19, va_up_ne _ _ (by omega), ef_18, va_up_ne _ _ (by decide), ef_17, va_up_ne _ _ (by decide)]; exact c_93
            have c_94 : f_19 94 = .inr (3, [.ref (ad 95), .int (nI zn_14)]) := by rw [ef_19, va_up_ne _ _ (by omega), ef_18, va_up_ne _ _ (by decide), ef_17, va_up_ne _ _ (by decide)]; exact c_94
            have c_95 : f_19 95 = ai (ca 0) 200 (z_13 4) := by rw [ef_19, va_up_ne _ _ (by omega), ef_18, va_up_ne _ _ (by decide), ef_17, va_up_ne _ _ (by decide)]; exact c_95
            have c_96 : f_19 96 = ai (ca 0) 200 (g_16 4) := by rw [ef_19, va_up_ne _ _ (by omega), ef_18, va_up_ne _ _ (by decide), ef_17, va_up_ne _ _ (by decide)]; exact c_96
            have c_97 : f_19 97 = ai (ca 0) 200 (g_16 5) := by rw [ef_19, va_up_ne _ _ (by omega), ef_18, va_up_ne _ _ (by decide), ef_17, va_up_ne _ _ (by decide)]; exact c_97
            have c_98 : f_19 98 = ai (ca 0) 200 (g_16 6) := by rw [ef_19, va_up_ne _ _ (by omega), ef_18, va_up_ne _ _ (by decide), ef_17, va_up_ne _ _ (by decide)]; exact c_98
            have c_99 : f_19 99 = aq (ca 4) 200 (fun i => some (ad (100 + i))) := by rw [ef_19, va_up_ne _ _ (by omega), ef_18, va_up_ne _ _ (by decide), ef_17, va_up_ne _ _ (by decide)]; exact c_99
            have c_300 : f_19 300 = ai (ca 0) 20 (g_16 2) := by rw [ef_19, va_up_ne _ _ (by omega), ef_18, va_up_ne _ _ (by decide), ef_17, va_up_ne _ _ (by decide)]; exact c_300
            have c_301 : f_19 301 = ai (ca 2) 20 (upd (g_16 3) k (nI 1)) := by rw [ef_19, va_up_ne _ _ (by omega), ef_18, va_up_ne _ _ (by decide)]; exact c_301
            have qn_0 : (va_up n_15 3 (k + 1)) 0 = n_15 0 := by rw [va_up_ne _ _ (by decide)]
            have qn_1 : (va_up n_15 3 (k + 1)) 1 = n_15 1 := by rw [va_up_ne _ _ (by decide)]
            have qn_2 : (va_up n_15 3 (k + 1)) 2 = n_15 2 := by rw [va_up_ne _ _ (by decide)]
            have qn_3 : (va_up n_15 3 (k + 1)) 3 = k + 1 := by rw [va_up_self]
            have qn_4 : (va_up n_15 3 (k + 1)) 4 = n_15 4 := by rw [va_up_ne _ _ (by decide)]
            have qn_5 : (va_up n_15 3 (k + 1)) 5 = n_15 5 := by rw [va_up_ne _ _ (by decide)]
            have qg_0 : (va_up (va_up g_16 3 (upd (g_16 3) k (nI 1))) 10 (upd (g_16 10) j9 ((g_16 10 j9) + (((nI j) - (g_16 10 j9)) / (g_16 11 j9) + nI 1) * (g_16 11 j9)))) 0 = g_16 0 := by rw [va_up_ne _ _ (by decide), va_up_ne _ _ (by decide)]
            have qg_1 : (va_up (va_up g_16 3 (upd (g_16 3) k (nI 1))) 10 (upd (g_16 10) j9 ((g_16 10 j9) + (((nI j) - (g_16 10 j9)) / (g_16 11 j9) + nI 1) * (g_16 11 j9)))) 1 = g_16 1 := by rw [va_up_ne _ _ (by decide), va_up_ne _ _ (by decide)]
            have qg_2 : (va_up (va_up g_16 3 (upd (g_16 3) k (nI 1))) 10 (upd (g_16 10) j9 ((g_16 10 j9) + (((nI j) - (g_16 10 j9)) / (g_16 11 j9) + nI 1) * (g_16 11 j9)))) 2 = g_16 2 := by rw [va_up_ne _ _ (by decide), va_up_ne _ _ (by decide)]
            have qg_3 : (va_up (va_up g_16 3 (upd (g_16 3) k (nI 1))) 10 (upd (g_16 10) j9 ((g_16 10 j9) + (((nI j) - (g_16 10 j9)) / (g_16 11 j9) + nI 1) * (g_16 11 j9)))) 3 = upd (g_16 3) k (nI 1) := by rw [va_up_ne _ _ (by decide), va_up_self]
            have qg_4 : (va_up (va_up g_16 3 (upd (g_16 3) k (nI 1))) 10 (upd (g_16 10) j9 ((g_16 10 j9) + (((nI j) - (g_16 10 j9)) / (g_16 11 j9) + nI 1) * (g_16 11 j9)))) 4 = g_16 4 := by rw [va_up_ne _ _ (by decide), va_up_ne _ _ (by decide)]
            have qg_5 : (va_up (va_up g_16 3 (upd (g_16 3) k (nI 1))) 10 (upd (g_16 10) j9 ((g_16 10 j9) + (((nI j) - (g_16 10 j9)) / (g_16 11 j9) + nI 1) * (g_16 11 j9)))) 5 = g_16 5 := by rw [va_up_ne _ _ (by decide), va_up_ne _ _ (by decide)]
            have qg_6 : (va_up (va_up g_16 3 (upd (g_16 3) k (nI 1))) 10 (upd (g_16 10) j9 ((g_16 10 j9) + (((nI j) - (g_16 10 j9)) / (g_16 11 j9) + nI 1) * (g_16 11 j9)))) 6 = g_16 6 := by rw [va_up_ne _ _ (by decide), va_up_ne _ _ (by decide)]
            have qg_7 : (va_up (va_up g_16 3 (upd (g_16 3) k (nI 1))) 10 (upd (g_16 10) j9 ((g_16 10 j9) + (((nI j) - (g_16 10 j9)) / (g_16 11 j9) + nI 1) * (g_16 11 j9)))) 7 = g_16 7 := by rw [va_up_ne _ _ (by decide), va_up_ne _ _ (by decide)]
            have qg_8 : (va_up (va_up g_16 3 (upd (g_16 3) k (nI 1))) 10 (upd (g_16 10) j9 ((g_16 10 j9) + (((nI j) - (g_16 10 j9)) / (g_16 11 j9) + nI 1) * (g_16 11 j9)))) 8 = g_16 8 := by rw [va_up_ne _ _ (by decide), va_up_ne _ _ (by decide)]
            have qg_9 : (va_up (va_up g_16 3 (upd (g_16 3) k (nI 1))) 10 (upd (g_16 10) j9 ((g_16 10 j9) + (((nI j) - (g_16 10 j9)) / (g_16 11 j9) + nI 1) * (g_16 11 j9)))) 9 = g_16 9 := by rw [va_up_ne _ _ (by decide), va_up_ne _ _ (by decide)]
            have qg_10 : (va_up (va_up g_16 3 (upd (g_16 3) k (nI 1))) 10 (upd (g_16 10) j9 ((g_16 10 j9) + (((nI j) - (g_16 10 j9)) / (g_16 11 j9) + nI 1) * (g_16 11 j9)))) 10 = upd (g_16 10) j9 ((g_16 10 j9) + (((nI j) - (g_16 10 j9)) / (g_16 11 j9) + nI 1) * (g_16 11 j9)) := by rw [va_up_self]
            have qg_11 : (va_up (va_up g_16 3 (upd (g_16 3) k (nI 1))) 10 (upd (g_16 10) j9 ((g_16 10 j9) + (((nI j) - (g_16 10 j9)) / (g_16 11 j9) + nI 1) * (g_16 11 j9)))) 11 = g_16 11 := by rw [va_up_ne _ _ (by decide), va_up_ne _ _ (by decide)]
            have qg_12 : (va_up (va_up g_16 3 (upd (g_16 3) k (nI 1))) 10 (upd (g_16 10) j9 ((g_16 10 j9) + (((nI j) - (g_16 10 j9)) / (g_16 11 j9) + nI 1) * (g_16 11 j9)))) 12 = g_16 12 := by rw [va_up_ne _ _ (by decide), va_up_ne _ _ (by decide)]
            have qg_13 : (va_up (va_up g_16 3 (upd (g_16 3) k (nI 1))) 10 (upd (g_16 10) j9 ((g_16 10 j9) + (((nI j) - (g_16 10 j9)) / (g_16 11 j9) + nI 1) * (g_16 11 j9)))) 13 = g_16 13 := by rw [va_up_ne _ _ (by decide), va_up_ne _ _ (by decide)]
            have hRk : RepX ca ad (va_up n_15 3 (k + 1)) (va_up (va_up g_16 3 (upd (g_16 3) k (nI 1))) 10 (upd (g_16 10) j9 ((g_16 10 j9) + (((nI j) - (g_16 10 j9)) / (g_16 11 j9) + nI 1) * (g_16 11 j9)))) z_13 zn_14 tb f_19 := ⟨(by rw [qn_0, qn_1, qn_2, qn_3, qg_13]; exact c_0),
                  c_1,
                  c_2,
                  c_3,
                  c_4,
                  c_5,
                  (by rw [qn_4]; exact c_6),
                  (by rw [qg_0]; exact c_7),
                  (by rw [qg_1]; exact c_8),
                  c_9,
                  (by rw [qn_5]; exact c_90),
                  c_91,
                  c_92,
                  c_93,
                  c_94,
                  c_95,
                  (by rw [qg_4]; exact c_96),
                  (by rw [qg_5]; exact c_97),
                  (by rw [qg_6]; exact c_98),
                  c_99,
                  (by rw [qg_2]; exact c_300),
                  (by rw [qg_3]; exact c_301),
                  (fun i9 hi9 => by
                  by_cases ei : i9 = j9
                  · rw [ei]; simp only [qg_7, qg_8, qg_9, qg_10, qg_11, qg_12, pk_us]; exact c_10_4_j9
                  · simp only [qg_7, qg_8, qg_9, qg_10, qg_11, qg_12, pk_un ei]; rw [ef_19, va_up_ne _ _ (by omega), ef_18, va_up_ne _ _ (by omega), ef_17, va_up_ne _ _ (by omega)]; exact F_kf i9 hi9),
                  (fun i9 hi9 => by rw [va_up_ne _ _ (by omega)]; rw [ef_19, va_up_ne _ _ (by omega), ef_18, va_up_ne _ _ (by omega), ef_17, va_up_ne _ _ (by omega)]; exact F_oc i9 hi9),
                  (fun i9 hi9 => by rw [va_up_ne _ _ (by omega), va_up_ne _ _ (by omega)]; rw [ef_19, va_up_ne _ _ (by omega), ef_18, va_up_ne _ _ (by omega), ef_17, va_up_ne _ _ (by omega)]; exact F_va i9 hi9),
                  (fun i9 hi9 => by rw [va_up_ne _ _ (by omega), va_up_ne _ _ (by omega)]; rw [ef_19, va_up_ne _ _ (by omega), ef_18, va_up_ne _ _ (by omega), ef_17, va_up_ne _ _ (by omega)]; exact F_lw i9 hi9),
                  (fun i9 hi9 => by rw [va_up_ne _ _ (by omega), va_up_ne _ _ (by omega)]; rw [ef_19, va_up_ne _ _ (by omega), ef_18, va_up_ne _ _ (by omega), ef_17, va_up_ne _ _ (by omega)]; exact F_M i9 hi9), hzn, hT⟩
            have hfr : ∀ y, 302 ≤ y → f_19 y = f y := (fun y hy => by rw [ef_19, va_up_ne _ _ (by omega), ef_18, va_up_ne _ _ (by omega), ef_17, va_up_ne _ _ (by omega)]; exact hfr y hy)
            have hRk : RepX ca ad ((dueS n g (nI j) (k + 1)).1) ((dueS n g (nI j) (k + 1)).2) z_13 zn_14 tb f_19 := by rw [dueS_some (n := n) (g := g) (y := nI j) (k := k) (j := j9) (by rw [← eg_6, ← d2]; exact ej9), ← en_5, ← eg_6]; show RepX ca ad (va_up (appN n_5) 3 (k + 1)) _ _ _ tb _; unfold dueStep; rw [← eN, ← eC, q3]; exact hRk
            exact ih_33 (k + 1) _ _ _ _ _ _ (by omega) (by omega) hRk hfr hw (lv_sub hl [2, 3, 0] rfl)
          · refine lv_aload_n hx hb dX5_due_67 rfl (lv_at hl 1 rfl) ?_
            refine lv_iload_n hx hb dX5_due_68 rfl (lv_at hl 0 rfl) ?_
            refine lv_iload_n hx hb dX5_due_69 rfl (lv_at hl 2 rfl) ?_
            have c_1 : f_10 1 = .inr (2, [.ref (ad 2), .ref (ad 3)]) := by rw [ef_10, va_up_ne _ _ (by decide)]; exact c_1
            have c_2 : f_10 2 = ai (ca 0) 8 (zc 0) := by rw [ef_10, va_up_ne _ _ (by decide)]; exact c_2
            have c_3 : f_10 3 = ai (ca 0) 64 (zc 1) := by rw [ef_10, va_up_ne _ _ (by decide)]; exact c_3
            have c_4 : f_10 4 = .inr (5, [.ref (ad 5)]) := by rw [ef_10, va_up_ne _ _ (by decide)]; exact c_4
            have c_5 : f_10 5 = ai (ca 0) 256 tb := by rw [ef_10, va_up_ne _ _ (by decide)]; exact c_5
            have c_6 : f_10 6 = .inr (3, [.ref (ad 7), .int (nI (n_5 4))]) := by rw [ef_10, va_up_ne _ _ (by decide)]; exact c_6
            have c_7 : f_10 7 = ai (ca 0) 200 (g_6 0) := by rw [ef_10, va_up_ne _ _ (by decide)]; exact c_7
            have c_8 : f_10 8 = ai (ca 0) 8 (g_6 1) := by rw [ef_10, va_up_ne _ _ (by decide)]; exact c_8
            have c_9 : f_10 9 = aq (ca 3) 20 (fun i => some (ad (10 + 4 * i))) := by rw [ef_10, va_up_ne _ _ (by decide)]; exact c_9
            have c_90 : f_10 90 = .inr (4, [.ref (ad 91), .ref (ad 94), .ref (ad 96), .ref (ad 97), .ref (ad 98), .ref (ad 99), .int (nI (n_5 5))]) := by rw [ef_10, va_up_ne _ _ (by decide)]; exact c_90
            have c_91 : f_10 91 = .inr (2, [.ref (ad 92), .ref (ad 93)]) := by rw [ef_10, va_up_ne _ _ (by decide)]; exact c_91
            have c_92 : f_10 92 = ai (ca 0) 8 (zc 2) := by rw [ef_10, va_up_ne _ _ (by decide)]; exact c_92
            have c_93 : f_10 93 = ai (ca 0) 64 (zc 3) := by rw [ef_10, va_up_ne _ _ (by decide)]; exact c_93
            have c_94 : f_10 94 = .inr (3, [.ref (ad 95), .int (nI znc)]) := by rw [ef_10, va_up_ne _ _ (by decide)]; exact c_94
            have c_95 : f_10 95 = ai (ca 0) 200 (zc 4) := by rw [ef_10, va_up_ne _ _ (by decide)]; exact c_95
            have c_96 : f_10 96 = ai (ca 0) 200 (g_6 4) := by rw [ef_10, va_up_ne _ _ (by decide)]; exact c_96
            have c_97 : f_10 97 = ai (ca 0) 200 (g_6 5) := by rw [ef_10, va_up_ne _ _ (by decide)]; exact c_97
            have c_98 : f_10 98 = ai (ca 0) 200 (g_6 6) := by rw [ef_10, va_up_ne _ _ (by decide)]; exact c_98
            have c_99 : f_10 99 = aq (ca 4) 200 (fun i => some (ad (100 + i))) := by rw [ef_10, va_up_ne _ _ (by decide)]; exact c_99
            have c_301 : f_10 301 = ai (ca 2) 20 (g_6 3) := by rw [ef_10, va_up_ne _ _ (by decide)]; exact c_301
            have qg_0 : (va_up g_6 2 (upd (g_6 2) k (nI j9))) 0 = g_6 0 := by rw [va_up_ne _ _ (by decide)]
            have qg_1 : (va_up g_6 2 (upd (g_6 2) k (nI j9))) 1 = g_6 1 := by rw [va_up_ne _ _ (by decide)]
            have qg_2 : (va_up g_6 2 (upd (g_6 2) k (nI j9))) 2 = upd (g_6 2) k (nI j9) := by rw [va_up_self]
            have qg_3 : (va_up g_6 2 (upd (g_6 2) k (nI j9))) 3 = g_6 3 := by rw [va_up_ne _ _ (by decide)]
            have qg_4 : (va_up g_6 2 (upd (g_6 2) k (nI j9))) 4 = g_6 4 := by rw [va_up_ne _ _ (by decide)]
            have qg_5 : (va_up g_6 2 (upd (g_6 2) k (nI j9))) 5 = g_6 5 := by rw [va_up_ne _ _ (by decide)]
            have qg_6 : (va_up g_6 2 (upd (g_6 2) k (nI j9))) 6 = g_6 6 := by rw [va_up_ne _ _ (by decide)]
            have qg_7 : (va_up g_6 2 (upd (g_6 2) k (nI j9))) 7 = g_6 7 := by rw [va_up_ne _ _ (by decide)]
            have qg_8 : (va_up g_6 2 (upd (g_6 2) k (nI j9))) 8 = g_6 8 := by rw [va_up_ne _ _ (by decide)]
            have qg_9 : (va_up g_6 2 (upd (g_6 2) k (nI j9))) 9 = g_6 9 := by rw [va_up_ne _ _ (by decide)]
            have qg_10 : (va_up g_6 2 (upd (g_6 2) k (nI j9))) 10 = g_6 10 := by rw [va_up_ne _ _ (by decide)]
            have qg_11 : (va_up g_6 2 (upd (g_6 2) k (nI j9))) 11 = g_6 11 := by rw [va_up_ne _ _ (by decide)]
            have qg_12 : (va_up g_6 2 (upd (g_6 2) k (nI j9))) 12 = g_6 12 := by rw [va_up_ne _ _ (by decide)]
            have qg_13 : (va_up g_6 2 (upd (g_6 2) k (nI j9))) 13 = g_6 13 := by rw [va_up_ne _ _ (by decide)]
            have hRk : RepX ca ad n_5 (va_up g_6 2 (upd (g_6 2) k (nI j9))) zc znc tb f_10 := ⟨(by rw [qg_13]; exact c_0),
                  c_1,
                  c_2,
                  c_3,
                  c_4,
                  c_5,
                  c_6,
                  (by rw [qg_0]; exact c_7),
                  (by rw [qg_1]; exact c_8),
                  c_9,
                  c_90,
                  c_91,
                  c_92,
                  c_93,
                  c_94,
                  c_95,
                  (by rw [qg_4]; exact c_96),
                  (by rw [qg_5]; exact c_97),
                  (by rw [qg_6]; exact c_98),
                  c_99,
                  (by rw [qg_2]; exact c_300),
                  (by rw [qg_3]; exact c_301),
                  (fun i9 hi9 => by rw [qg_7, qg_8, qg_9, qg_10, qg_11, qg_12]; rw [ef_10, va_up_ne _ _ (by omega)]; exact F_kf i9 hi9),
                  (fun i9 hi9 => by rw [ef_10, va_up_ne _ _ (by omega)]; exact F_oc i9 hi9),
                  (fun i9 hi9 => by rw [va_up_ne _ _ (by omega)]; rw [ef_10, va_up_ne _ _ (by omega)]; exact F_va i9 hi9),
                  (fun i9 hi9 => by rw [va_up_ne _ _ (by omega)]; rw [ef_10, va_up_ne _ _ (by omega)]; exact F_lw i9 hi9),
                  (fun i9 hi9 => by rw [va_up_ne _ _ (by omega)]; rw [ef_10, va_up_ne _ _ (by omega)]; exact F_M i9 hi9), hzn, hT⟩
            have hfr : ∀ y, 302 ≤ y → f_10 y = f y := (fun y hy => by rw [ef_10, va_up_ne _ _ (by omega)]; exact hfr y hy)
            refine x_Vi (q := 0) (As := [.int (nI j9), .int (nI j)]) (rest := [.int (nI k), .ref (ad 301)]) ⟨hx, hb, hml, hown, hts⟩ (k_X5_check_fitF l D ca N ad B tR tK f_10 dd hN n_5 (va_up g_6 2 (upd (g_6 2) k (nI j9))) zc znc tb hRk j9 (nI j) (by omega) (fun i hi => by rw [dz i]; exact hsz i hi) hr9 hf9) (cwV 2 hts gX5_due_X5_check rfl rfl rfl (by decide +kernel) ⟨Nat.le_of_ble_eq_true rfl, Nat.le_of_ble_eq_true rfl⟩) hK hE hB hw (by omega) c_0 rfl rfl rfl rfl hl.1 (Nat.le_of_ble_eq_true rfl) ⟨Nat.zero_le _, Nat.zero_le _⟩ dX5_due_70 (fun r_22 f_21 H locs hp hw => ?_)
            obtain ⟨er, hp⟩ := hp
            rw [← er]
            obtain ⟨z_23, zn_24, hR2, hfr2⟩ := hp
            obtain ⟨g_26, eg_26⟩ : ∃ x, x = va_up (va_up g_6 2 (upd (g_6 2) k (nI j9))) 9 (upd ((va_up g_6 2 (upd (g_6 2) k (nI j9))) 9) j9 (nI j)) := ⟨_, rfl⟩
            rw [← eg_26] at hR2
            have hfr : ∀ y, 302 ≤ y → f_21 y = f y := fun y hy => (hfr2 y hy).trans (hfr y hy)
            obtain ⟨c_0, c_1, c_2, c_3, c_4, c_5, c_6, c_7, c_8, c_9, c_90, c_91, c_92, c_93, c_94, c_95, c_96, c_97, c_98, c_99, c_300, c_301, F_kf, F_oc, F_va, F_lw, F_M, hzn, hT⟩ := hR2
            obtain ⟨q1, q2, q3⟩ := chkG_fitF (y := nI j) hf9 hr9
            have eC : g_26 = chkG n_5 (va_up g_6 2 (upd (g_6 2) k (nI j9))) j9 (nI j) := by rw [q1]; exact eg_26
            have eN : n_5 = appN n_5 := by rw [q2]
            have d0 : n_5 0 = n 0 := by rw [eN, appN_at (by decide)]; exact d0
            refine x_zast (j := k) hx hb hK dd hw 301 2 (by omega) c_301 rfl rfl (by omega) (by decide) (by first | exact Or.inl rfl | exact Or.inr rfl) dX5_due_73 (fun H locs hw => ?_)
            obtain ⟨f_27, ef_27⟩ : ∃ z, z = va_up f_21 301 (ai (ca 2) 20 (upd (g_26 3) k (nI 1))) := ⟨_, rfl⟩
            have hw : xw D vwCl N ad B s.heap f_27 H locs := by rw [ef_27]; exact hw
            have c_301 : f_27 301 = ai (ca 2) 20 (upd (g_26 3) k (nI 1)) := va_up_of ef_27
            refine lv_aload_n hx hb dX5_due_74 rfl (lv_at hl 1 rfl) ?_
            refine lv_iload_n hx hb dX5_due_75 rfl (lv_at hl 3 rfl) ?_
            refine lv_iconst (v := nI 1) hx hb dX5_due_76 (by decide) ?_
            refine n_iadd hx hb dX5_due_77 ?_
            have c_0 : f_27 0 = .inr (6, [.int (nI (n_5 0)), .ref (ad 1), .ref (ad 4), .ref (ad 6), .ref (ad 8), .int (nI (n_5 1)), .ref (ad 9), .int (nI (n_5 2)), .ref (ad 90), .ref (ad 300), .ref (ad 301), .int (nI (n_5 3)), .int (g_26 13 0)]) := by rw [ef_27, va_up_ne _ _ (by decide)]; exact c_0
            refine x_put (ci := 6) (C := RX5) (T := TX5) (n := 13) (ref := RX5) (fs' := [.int (nI (n_5 0)), .ref (ad 1), .ref (ad 4), .ref (ad 6), .ref (ad 8), .int (nI (n_5 1)), .ref (ad 9), .int (nI (n_5 2)), .ref (ad 90), .ref (ad 300), .ref (ad 301), .int (nI (k + 1)), .int (g_26 13 0)]) hx hb hts hin_6 tyX5 tyX5_ok nmX5 hown hK dd hw 0 (by omega) c_0 rfl 11 (by decide) hf_150 (fun _ h => h) rfl rfl rfl (Nat.le_of_ble_eq_true rfl) rfl dX5_due_78 (fun H locs hw => ?_)
            obtain ⟨f_28, ef_28⟩ : ∃ z, z = va_up f_27 0 (.inr (6, [.int (nI (n_5 0)), .ref (ad 1), .ref (ad 4), .ref (ad 6), .ref (ad 8), .int (nI (n_5 1)), .ref (ad 9), .int (nI (n_5 2)), .ref (ad 90), .ref (ad 300), .ref (ad 301), .int (nI (k + 1)), .int (g_26 13 0)])) := ⟨_, rfl⟩
            have hw : xw D vwCl N ad B s.heap f_28 H locs := by rw [ef_28]; exact hw
            have c_0 : f_28 0 = .inr (6, [.int (nI (n_5 0)), .ref (ad 1), .ref (ad 4), .ref (ad 6), .ref (ad 8), .int (nI (n_5 1)), .ref (ad 9), .int (nI (n_5 2)), .ref (ad 90), .ref (ad 300), .ref (ad 301), .int (nI (k + 1)), .int (g_26 13 0)]) := va_up_of ef_28
            refine lv_aload_n hx hb dX5_due_81 rfl (lv_at hl 1 rfl) ?_
            refine x_get (ci := 6) (C := RX5) (T := TX5) (n := 13) (ref := RX5) hx hb hts hin_6 hown hK hw 0 (by omega) c_0 rfl 6 (by decide) hf_49 (fun _ h => h) rfl dX5_due_82 ?_
            refine lv_iload_n hx hb dX5_due_85 rfl (lv_at hl 0 rfl) ?_
            have c_9 : f_28 9 = aq (ca 3) 20 (fun i => some (ad (10 + 4 * i))) := by rw [ef_28, va_up_ne _ _ (by decide), ef_27, va_up_ne _ _ (by decide)]; exact c_9
            refine x_aald (j := j9) (a := ad (10 + 4 * j9)) hx hb hK hw 9 3 (by omega) c_9 rfl rfl (by omega) (by decide) rfl dX5_due_86 ?_
            refine lv_iload_n hx hb dX5_due_87 rfl (lv_at hl 2 rfl) ?_
            have c_10_4_j9 : f_28 (10 + 4 * j9) = .inr (1, [.ref (ad (11 + 4 * j9)), .ref (ad (13 + 4 * j9)), .int (g_26 7 j9), .int (g_26 8 j9), .int (g_26 9 j9), .int (g_26 10 j9), .int (g_26 11 j9), .int (g_26 12 j9)]) := by rw [ef_28, va_up_ne _ _ (by omega), ef_27, va_up_ne _ _ (by omega)]; exact (F_kf j9 (by omega))
            refine x_Vv (q := 10 + 4 * j9) (As := [.int (nI j)]) (rest := []) ⟨hx, hb, hml, hown, hts⟩ (k_X0_planBehind l D ca N ad B tR tK f_28 dd (10 + 4 * j9) (11 + 4 * j9) (13 + 4 * j9) (g_26 7 j9) (g_26 8 j9) (g_26 9 j9) (g_26 10 j9) (g_26 11 j9) (g_26 12 j9) (nI j) (by omega) c_10_4_j9  (by rw [eC, chkG_at (by decide) (by decide) (by decide) (by decide) (by decide)]; exact hj8.1) (by rw [eC, chkG_at (by decide) (by decide) (by decide) (by decide) (by decide)]; exact hj8.2)) (cwV 1 hts gX5_due_X0_planBehind rfl rfl rfl (by decide +kernel) ⟨Nat.le_of_ble_eq_true rfl, Nat.le_of_ble_eq_true rfl⟩) hK hE hB hw (by omega) c_10_4_j9 rfl rfl rfl rfl hl.1 (Nat.le_of_ble_eq_true rfl) ⟨Nat.zero_le _, Nat.zero_le _⟩ dX5_due_88 (fun f_29 H locs hp hw => ?_)
            have eu := hp
            have ef_29 : f_29 = va_up f_28 (10 + 4 * j9) (.inr (1, [.ref (ad (11 + 4 * j9)), .ref (ad (13 + 4 * j9)), .int (g_26 7 j9), .int (g_26 8 j9), .int (g_26 9 j9), .int ((g_26 10 j9) + (((nI j) - (g_26 10 j9)) / (g_26 11 j9) + nI 1) * (g_26 11 j9)), .int (g_26 11 j9), .int (g_26 12 j9)])) := eu
            have c_10_4_j9 : f_29 (10 + 4 * j9) = .inr (1, [.ref (ad (11 + 4 * j9)), .ref (ad (13 + 4 * j9)), .int (g_26 7 j9), .int (g_26 8 j9), .int (g_26 9 j9), .int ((g_26 10 j9) + (((nI j) - (g_26 10 j9)) / (g_26 11 j9) + nI 1) * (g_26 11 j9)), .int (g_26 11 j9), .int (g_26 12 j9)]) := by rw [ef_29, va_up_self]
            refine lv_iinc (v := nI (k + 1)) (lv' := [(2, .int (nI (k + 1))), (3, .int (nI j9)), (0, .ref (ad 0)), (1, .int (nI j))]) hx hb dX5_due_91 hl (k := 3) rfl (by rw [show Int32.ofInt 1 = nI 1 from rfl]; exact nI_add _ _) (by decide) rfl (fun ls hl => ?_)
            refine lv_goto (tgt := 33) hx hb dX5_due_94 (by decide) ?_
            have c_0 : f_29 0 = .inr (6, [.int (nI (n_5 0)), .ref (ad 1), .ref (ad 4), .ref (ad 6), .ref (ad 8), .int (nI (n_5 1)), .ref (ad 9), .int (nI (n_5 2)), .ref (ad 90), .ref (ad 300), .ref (ad 301), .int (nI (k + 1)), .int (g_26 13 0)]) := by rw [ef_29, va_up_ne _ _ (by omega)]; exact c_0
            have c_1 : f_29 1 = .inr (2, [.ref (ad 2), .ref (ad 3)]) := by rw [ef_29, va_up_ne _ _ (by omega), ef_28, va_up_ne _ _ (by decide), ef_27, va_up_ne _ _ (by decide)]; exact c_1
            have c_2 : f_29 2 = ai (ca 0) 8 (z_23 0) := by rw [ef_29, va_up_ne _ _ (by omega), ef_28, va_up_ne _ _ (by decide), ef_27, va_up_ne _ _ (by decide)]; exact c_2
            have c_3 : f_29 3 = ai (ca 0) 64 (z_23 1) := by rw [ef_29, va_up_ne _ _ (by omega), ef_28, va_up_ne _ _ (by decide), ef_27, va_up_ne _ _ (by decide)]; exact c_3
            have c_4 : f_29 4 = .inr (5, [.ref (ad 5)]) := by rw [ef_29, va_up_ne _ _ (by omega), ef_28, va_up_ne _ _ (by decide), ef_27, va_up_ne _ _ (by decide)]; exact c_4
            have c_5 : f_29 5 = ai (ca 0) 256 tb := by rw [ef_29, va_up_ne _ _ (by omega), ef_28, va_up_ne _ _ (by decide), ef_27, va_up_ne _ _ (by decide)]; exact c_5
            have c_6 : f_29 6 = .inr (3, [.ref (ad 7), .int (nI (n_5 4))]) := by rw [ef_29, va_up_ne _ _ (by omega), ef_28, va_up_ne _ _ (by decide), ef_27, va_up_ne _ _ (by decide)]; exact c_6
            have c_7 : f_29 7 = ai (ca 0) 200 (g_26 0) := by rw [ef_29, va_up_ne _ _ (by omega), ef_28, va_up_ne _ _ (by decide), ef_27, va_up_ne _ _ (by decide)]; exact c_7
            have c_8 : f_29 8 = ai (ca 0) 8 (g_26 1) := by rw [ef_29, va_up_ne _ _ (by omega), ef_28, va_up_ne _ _ (by decide), ef_27, va_up_ne _ _ (by decide)]; exact c_8
            have c_9 : f_29 9 = aq (ca 3) 20 (fun i => some (ad (10 + 4 * i))) := by rw [ef_29, va_up_ne _ _ (by omega)]; exact c_9
            have c_90 : f_29 90 = .inr (4, [.ref (ad 91), .ref (ad 94), .ref (ad 96), .ref (ad 97), .ref (ad 98), .ref (ad 99), .int (nI (n_5 5))]) := by rw [ef_29, va_up_ne _ _ (by omega), ef_28, va_up_ne _ _ (by decide), ef_27, va_up_ne _ _ (by decide)]; exact c_90
            have c_91 : f_29 91 = .inr (2, [.ref (ad 92), .ref (ad 93)]) := by rw [ef_29, va_up_ne _ _ (by omega), ef_28, va_up_ne _ _ (by decide), ef_27, va_up_ne _ _ (by decide)]; exact c_91
            have c_92 : f_29 92 = ai (ca 0) 8 (z_23 2) := by rw [ef_29, va_up_ne _ _ (by omega), ef_28, va_up_ne _ _ (by decide), ef_27, va_up_ne _ _ (by decide)]; exact c_92
            have c_93 : f_29 93 = ai (ca 0) 64 (z_23 3) := by rw [ef_29, va_up_ne _ _ (by omega), ef_28, va_up_ne _ _ (by decide), ef_27, va_up_ne _ _ (by decide)]; exact c_93
            have c_94 : f_29 94 = .inr (3, [.ref (ad 95), .int (nI zn_24)]) := by rw [ef_29, va_up_ne _ _ (by omega), ef_28, va_up_ne _ _ (by decide), ef_27, va_up_ne _ _ (by decide)]; exact c_94
            have c_95 : f_29 95 = ai (ca 0) 200 (z_23 4) := by rw [ef_29, va_up_ne _ _ (by omega), ef_28, va_up_ne _ _ (by decide), ef_27, va_up_ne _ _ (by decide)]; exact c_95
            have c_96 : f_29 96 = ai (ca 0) 200 (g_26 4) := by rw [ef_29, va_up_ne _ _ (by omega), ef_28, va_up_ne _ _ (by decide), ef_27, va_up_ne _ _ (by decide)]; exact c_96
            have c_97 : f_29 97 = ai (ca 0) 200 (g_26 5) := by rw [ef_29, va_up_ne _ _ (by omega), ef_28, va_up_ne _ _ (by decide), ef_27, va_up_ne _ _ (by decide)]; exact c_97
            have c_98 : f_29 98 = ai (ca 0) 200 (g_26 6) := by rw [ef_29, va_up_ne _ _ (by omega), ef_28, va_up_ne _ _ (by decide), ef_27, va_up_ne _ _ (by decide)]; exact c_98
            have c_99 : f_29 99 = aq (ca 4) 200 (fun i => some (ad (100 + i))) := by rw [ef_29, va_up_ne _ _ (by omega), ef_28, va_up_ne _ _ (by decide), ef_27, va_up_ne _ _ (by decide)]; exact c_99
            have c_300 : f_29 300 = ai (ca 0) 20 (g_26 2) := by rw [ef_29, va_up_ne _ _ (by omega), ef_28, va_up_ne _ _ (by decide), ef_27, va_up_ne _ _ (by decide)]; exact c_300
            have c_301 : f_29 301 = ai (ca 2) 20 (upd (g_26 3) k (nI 1)) := by rw [ef_29, va_up_ne _ _ (by omega), ef_28, va_up_ne _ _ (by decide)]; exact c_301
            have qn_0 : (va_up n_5 3 (k + 1)) 0 = n_5 0 := by rw [va_up_ne _ _ (by decide)]
            have qn_1 : (va_up n_5 3 (k + 1)) 1 = n_5 1 := by rw [va_up_ne _ _ (by decide)]
            have qn_2 : (va_up n_5 3 (k + 1)) 2 = n_5 2 := by rw [va_up_ne _ _ (by decide)]
            have qn_3 : (va_up n_5 3 (k + 1)) 3 = k + 1 := by rw [va_up_self]
            have qn_4 : (va_up n_5 3 (k + 1)) 4 = n_5 4 := by rw [va_up_ne _ _ (by decide)]
            have qn_5 : (va_up n_5 3 (k + 1)) 5 = n_5 5 := by rw [va_up_ne _ _ (by decide)]
            have qg_0 : (va_up (va_up g_26 3 (upd (g_26 3) k (nI 1))) 10 (upd (g_26 10) j9 ((g_26 10 j9) + (((nI j) - (g_26 10 j9)) / (g_26 11 j9) + nI 1) * (g_26 11 j9)))) 0 = g_26 0 := by rw [va_up_ne _ _ (by decide), va_up_ne _ _ (by decide)]
            have qg_1 : (va_up (va_up g_26 3 (upd (g_26 3) k (nI 1))) 10 (upd (g_26 10) j9 ((g_26 10 j9) + (((nI j) - (g_26 10 j9)) / (g_26 11 j9) + nI 1) * (g_26 11 j9)))) 1 = g_26 1 := by rw [va_up_ne _ _ (by decide), va_up_ne _ _ (by decide)]
            have qg_2 : (va_up (va_up g_26 3 (upd (g_26 3) k (nI 1))) 10 (upd (g_26 10) j9 ((g_26 10 j9) + (((nI j) - (g_26 10 j9)) / (g_26 11 j9) + nI 1) * (g_26 11 j9)))) 2 = g_26 2 := by rw [va_up_ne _ _ (by decide), va_up_ne _ _ (by decide)]
            have qg_3 : (va_up (va_up g_26 3 (upd (g_26 3) k (nI 1))) 10 (upd (g_26 10) j9 ((g_26 10 j9) + (((nI j) - (g_26 10 j9)) / (g_26 11 j9) + nI 1) * (g_26 11 j9)))) 3 = upd (g_26 3) k (nI 1) := by rw [va_up_ne _ _ (by decide), va_up_self]
            have qg_4 : (va_up (va_up g_26 3 (upd (g_26 3) k (nI 1))) 10 (upd (g_26 10) j9 ((g_26 10 j9) + (((nI j) - (g_26 10 j9)) / (g_26 11 j9) + nI 1) * (g_26 11 j9)))) 4 = g_26 4 := by rw [va_up_ne _ _ (by decide), va_up_ne _ _ (by decide)]
            have qg_5 : (va_up (va_up g_26 3 (upd (g_26 3) k (nI 1))) 10 (upd (g_26 10) j9 ((g_26 10 j9) + (((nI j) - (g_26 10 j9)) / (g_26 11 j9) + nI 1) * (g_26 11 j9)))) 5 = g_26 5 := by rw [va_up_ne _ _ (by decide), va_up_ne _ _ (by decide)]
            have qg_6 : (va_up (va_up g_26 3 (upd (g_26 3) k (nI 1))) 10 (upd (g_26 10) j9 ((g_26 10 j9) + (((nI j) - (g_26 10 j9)) / (g_26 11 j9) + nI 1) * (g_26 11 j9)))) 6 = g_26 6 := by rw [va_up_ne _ _ (by decide), va_up_ne _ _ (by decide)]
            have qg_7 : (va_up (va_up g_26 3 (upd (g_26 3) k (nI 1))) 10 (upd (g_26 10) j9 ((g_26 10 j9) + (((nI j) - (g_26 10 j9)) / (g_26 11 j9) + nI 1) * (g_26 11 j9)))) 7 = g_26 7 := by rw [va_up_ne _ _ (by decide), va_up_ne _ _ (by decide)]
            have qg_8 : (va_up (va_up g_26 3 (upd (g_26 3) k (nI 1))) 10 (upd (g_26 10) j9 ((g_26 10 j9) + (((nI j) - (g_26 10 j9)) / (g_26 11 j9) + nI 1) * (g_26 11 j9)))) 8 = g_26 8 := by rw [va_up_ne _ _ (by decide), va_up_ne _ _ (by decide)]
            have qg_9 : (va_up (va_up g_26 3 (upd (g_26 3) k (nI 1))) 10 (upd (g_26 10) j9 ((g_26 10 j9) + (((nI j) - (g_26 10 j9)) / (g_26 11 j9) + nI 1) * (g_26 11 j9)))) 9 = g_26 9 := by rw [va_up_ne _ _ (by decide), va_up_ne _ _ (by decide)]
            have qg_10 : (va_up (va_up g_26 3 (upd (g_26 3) k (nI 1))) 10 (upd (g_26 10) j9 ((g_26 10 j9) + (((nI j) - (g_26 10 j9)) / (g_26 11 j9) + nI 1) * (g_26 11 j9)))) 10 = upd (g_26 10) j9 ((g_26 10 j9) + (((nI j) - (g_26 10 j9)) / (g_26 11 j9) + nI 1) * (g_26 11 j9)) := by rw [va_up_self]
            have qg_11 : (va_up (va_up g_26 3 (upd (g_26 3) k (nI 1))) 10 (upd (g_26 10) j9 ((g_26 10 j9) + (((nI j) - (g_26 10 j9)) / (g_26 11 j9) + nI 1) * (g_26 11 j9)))) 11 = g_26 11 := by rw [va_up_ne _ _ (by decide), va_up_ne _ _ (by decide)]
            have qg_12 : (va_up (va_up g_26 3 (upd (g_26 3) k (nI 1))) 10 (upd (g_26 10) j9 ((g_26 10 j9) + (((nI j) - (g_26 10 j9)) / (g_26 11 j9) + nI 1) * (g_26 11 j9)))) 12 = g_26 12 := by rw [va_up_ne _ _ (by decide), va_up_ne _ _ (by decide)]
            have qg_13 : (va_up (va_up g_26 3 (upd (g_26 3) k (nI 1))) 10 (upd (g_26 10) j9 ((g_26 10 j9) + (((nI j) - (g_26 10 j9)) / (g_26 11 j9) + nI 1) * (g_26 11 j9)))) 13 = g_26 13 := by rw [va_up_ne _ _ (by decide), va_up_ne _ _ (by decide)]
            have hRk : RepX ca ad (va_up n_5 3 (k + 1)) (va_up (va_up g_26 3 (upd (g_26 3) k (nI 1))) 10 (upd (g_26 10) j9 ((g_26 10 j9) + (((nI j) - (g_26 10 j9)) / (g_26 11 j9) + nI 1) * (g_26 11 j9)))) z_23 zn_24 tb f_29 := ⟨(by rw [qn_0, qn_1, qn_2, qn_3, qg_13]; exact c_0),
                  c_1,
                  c_2,
                  c_3,
                  c_4,
                  c_5,
                  (by rw [qn_4]; exact c_6),
                  (by rw [qg_0]; exact c_7),
                  (by rw [qg_1]; exact c_8),
                  c_9,
                  (by rw [qn_5]; exact c_90),
                  c_91,
                  c_92,
                  c_93,
                  c_94,
                  c_95,
                  (by rw [qg_4]; exact c_96),
                  (by rw [qg_5]; exact c_97),
                  (by rw [qg_6]; exact c_98),
                  c_99,
                  (by rw [qg_2]; exact c_300),
                  (by rw [qg_3]; exact c_301),
                  (fun i9 hi9 => by
                  by_cases ei : i9 = j9
                  · rw [ei]; simp only [qg_7, qg_8, qg_9, qg_10, qg_11, qg_12, pk_us]; exact c_10_4_j9
                  · simp only [qg_7, qg_8, qg_9, qg_10, qg_11, qg_12, pk_un ei]; rw [ef_29, va_up_ne _ _ (by omega), ef_28, va_up_ne _ _ (by omega), ef_27, va_up_ne _ _ (by omega)]; exact F_kf i9 hi9),
                  (fun i9 hi9 => by rw [va_up_ne _ _ (by omega)]; rw [ef_29, va_up_ne _ _ (by omega), ef_28, va_up_ne _ _ (by omega), ef_27, va_up_ne _ _ (by omega)]; exact F_oc i9 hi9),
                  (fun i9 hi9 => by rw [va_up_ne _ _ (by omega), va_up_ne _ _ (by omega)]; rw [ef_29, va_up_ne _ _ (by omega), ef_28, va_up_ne _ _ (by omega), ef_27, va_up_ne _ _ (by omega)]; exact F_va i9 hi9),
                  (fun i9 hi9 => by rw [va_up_ne _ _ (by omega), va_up_ne _ _ (by omega)]; rw [ef_29, va_up_ne _ _ (by omega), ef_28, va_up_ne _ _ (by omega), ef_27, va_up_ne _ _ (by omega)]; exact F_lw i9 hi9),
                  (fun i9 hi9 => by rw [va_up_ne _ _ (by omega), va_up_ne _ _ (by omega)]; rw [ef_29, va_up_ne _ _ (by omega), ef_28, va_up_ne _ _ (by omega), ef_27, va_up_ne _ _ (by omega)]; exact F_M i9 hi9), hzn, hT⟩
            have hfr : ∀ y, 302 ≤ y → f_29 y = f y := (fun y hy => by rw [ef_29, va_up_ne _ _ (by omega), ef_28, va_up_ne _ _ (by omega), ef_27, va_up_ne _ _ (by omega)]; exact hfr y hy)
            have hRk : RepX ca ad ((dueS n g (nI j) (k + 1)).1) ((dueS n g (nI j) (k + 1)).2) z_23 zn_24 tb f_29 := by rw [dueS_some (n := n) (g := g) (y := nI j) (k := k) (j := j9) (by rw [← eg_6, ← d2]; exact ej9), ← en_5, ← eg_6]; show RepX ca ad (va_up (appN n_5) 3 (k + 1)) _ _ _ tb _; unfold dueStep; rw [← eN, ← eC, q3]; exact hRk
            exact ih_33 (k + 1) _ _ _ _ _ _ (by omega) (by omega) hRk hfr hw (lv_sub hl [2, 3, 0] rfl)
          · refine lv_aload_n hx hb dX5_due_67 rfl (lv_at hl 1 rfl) ?_
            refine lv_iload_n hx hb dX5_due_68 rfl (lv_at hl 0 rfl) ?_
            refine lv_iload_n hx hb dX5_due_69 rfl (lv_at hl 2 rfl) ?_
            have c_1 : f_10 1 = .inr (2, [.ref (ad 2), .ref (ad 3)]) := by rw [ef_10, va_up_ne _ _ (by decide)]; exact c_1
            have c_2 : f_10 2 = ai (ca 0) 8 (zc 0) := by rw [ef_10, va_up_ne _ _ (by decide)]; exact c_2
            have c_3 : f_10 3 = ai (ca 0) 64 (zc 1) := by rw [ef_10, va_up_ne _ _ (by decide)]; exact c_3
            have c_4 : f_10 4 = .inr (5, [.ref (ad 5)]) := by rw [ef_10, va_up_ne _ _ (by decide)]; exact c_4
            have c_5 : f_10 5 = ai (ca 0) 256 tb := by rw [ef_10, va_up_ne _ _ (by decide)]; exact c_5
            have c_6 : f_10 6 = .inr (3, [.ref (ad 7), .int (nI (n_5 4))]) := by rw [ef_10, va_up_ne _ _ (by decide)]; exact c_6
            have c_7 : f_10 7 = ai (ca 0) 200 (g_6 0) := by rw [ef_10, va_up_ne _ _ (by decide)]; exact c_7
            have c_8 : f_10 8 = ai (ca 0) 8 (g_6 1) := by rw [ef_10, va_up_ne _ _ (by decide)]; exact c_8
            have c_9 : f_10 9 = aq (ca 3) 20 (fun i => some (ad (10 + 4 * i))) := by rw [ef_10, va_up_ne _ _ (by decide)]; exact c_9
            have c_90 : f_10 90 = .inr (4, [.ref (ad 91), .ref (ad 94), .ref (ad 96), .ref (ad 97), .ref (ad 98), .ref (ad 99), .int (nI (n_5 5))]) := by rw [ef_10, va_up_ne _ _ (by decide)]; exact c_90
            have c_91 : f_10 91 = .inr (2, [.ref (ad 92), .ref (ad 93)]) := by rw [ef_10, va_up_ne _ _ (by decide)]; exact c_91
            have c_92 : f_10 92 = ai (ca 0) 8 (zc 2) := by rw [ef_10, va_up_ne _ _ (by decide)]; exact c_92
            have c_93 : f_10 93 = ai (ca 0) 64 (zc 3) := by rw [ef_10, va_up_ne _ _ (by decide)]; exact c_93
            have c_94 : f_10 94 = .inr (3, [.ref (ad 95), .int (nI znc)]) := by rw [ef_10, va_up_ne _ _ (by decide)]; exact c_94
            have c_95 : f_10 95 = ai (ca 0) 200 (zc 4) := by rw [ef_10, va_up_ne _ _ (by decide)]; exact c_95
            have c_96 : f_10 96 = ai (ca 0) 200 (g_6 4) := by rw [ef_10, va_up_ne _ _ (by decide)]; exact c_96
            have c_97 : f_10 97 = ai (ca 0) 200 (g_6 5) := by rw [ef_10, va_up_ne _ _ (by decide)]; exact c_97
            have c_98 : f_10 98 = ai (ca 0) 200 (g_6 6) := by rw [ef_10, va_up_ne _ _ (by decide)]; exact c_98
            have c_99 : f_10 99 = aq (ca 4) 200 (fun i => some (ad (100 + i))) := by rw [ef_10, va_up_ne _ _ (by decide)]; exact c_99
            have c_301 : f_10 301 = ai (ca 2) 20 (g_6 3) := by rw [ef_10, va_up_ne _ _ (by decide)]; exact c_301
            have qg_0 : (va_up g_6 2 (upd (g_6 2) k (nI j9))) 0 = g_6 0 := by rw [va_up_ne _ _ (by decide)]
            have qg_1 : (va_up g_6 2 (upd (g_6 2) k (nI j9))) 1 = g_6 1 := by rw [va_up_ne _ _ (by decide)]
            have qg_2 : (va_up g_6 2 (upd (g_6 2) k (nI j9))) 2 = upd (g_6 2) k (nI j9) := by rw [va_up_self]
            have qg_3 : (va_up g_6 2 (upd (g_6 2) k (nI j9))) 3 = g_6 3 := by rw [va_up_ne _ _ (by decide)]
            have qg_4 : (va_up g_6 2 (upd (g_6 2) k (nI j9))) 4 = g_6 4 := by rw [va_up_ne _ _ (by decide)]
            have qg_5 : (va_up g_6 2 (upd (g_6 2) k (nI j9))) 5 = g_6 5 := by rw [va_up_ne _ _ (by decide)]
            have qg_6 : (va_up g_6 2 (upd (g_6 2) k (nI j9))) 6 = g_6 6 := by rw [va_up_ne _ _ (by decide)]
            have qg_7 : (va_up g_6 2 (upd (g_6 2) k (nI j9))) 7 = g_6 7 := by rw [va_up_ne _ _ (by decide)]
            have qg_8 : (va_up g_6 2 (upd (g_6 2) k (nI j9))) 8 = g_6 8 := by rw [va_up_ne _ _ (by decide)]
            have qg_9 : (va_up g_6 2 (upd (g_6 2) k (nI j9))) 9 = g_6 9 := by rw [va_up_ne _ _ (by decide)]
            have qg_10 : (va_up g_6 2 (upd (g_6 2) k (nI j9))) 10 = g_6 10 := by rw [va_up_ne _ _ (by decide)]
            have qg_11 : (va_up g_6 2 (upd (g_6 2) k (nI j9))) 11 = g_6 11 := by rw [va_up_ne _ _ (by decide)]
            have qg_12 : (va_up g_6 2 (upd (g_6 2) k (nI j9))) 12 = g_6 12 := by rw [va_up_ne _ _ (by decide)]
            have qg_13 : (va_up g_6 2 (upd (g_6 2) k (nI j9))) 13 = g_6 13 := by rw [va_up_ne _ _ (by decide)]
            have hRk : RepX ca ad n_5 (va_up g_6 2 (upd (g_6 2) k (nI j9))) zc znc tb f_10 := ⟨(by rw [qg_13]; exact c_0),
                  c_1,
                  c_2,
                  c_3,
                  c_4,
                  c_5,
                  c_6,
                  (by rw [qg_0]; exact c_7),
                  (by rw [qg_1]; exact c_8),
                  c_9,
                  c_90,
                  c_91,
                  c_92,
                  c_93,
                  c_94,
                  c_95,
                  (by rw [qg_4]; exact c_96),
                  (by rw [qg_5]; exact c_97),
                  (by rw [qg_6]; exact c_98),
                  c_99,
                  (by rw [qg_2]; exact c_300),
                  (by rw [qg_3]; exact c_301),
                  (fun i9 hi9 => by rw [qg_7, qg_8, qg_9, qg_10, qg_11, qg_12]; rw [ef_10, va_up_ne _ _ (by omega)]; exact F_kf i9 hi9),
                  (fun i9 hi9 => by rw [ef_10, va_up_ne _ _ (by omega)]; exact F_oc i9 hi9),
                  (fun i9 hi9 => by rw [va_up_ne _ _ (by omega)]; rw [ef_10, va_up_ne _ _ (by omega)]; exact F_va i9 hi9),
                  (fun i9 hi9 => by rw [va_up_ne _ _ (by omega)]; rw [ef_10, va_up_ne _ _ (by omega)]; exact F_lw i9 hi9),
                  (fun i9 hi9 => by rw [va_up_ne _ _ (by omega)]; rw [ef_10, va_up_ne _ _ (by omega)]; exact F_M i9 hi9), hzn, hT⟩
            have hfr : ∀ y, 302 ≤ y → f_10 y = f y := (fun y hy => by rw [ef_10, va_up_ne _ _ (by omega)]; exact hfr y hy)
            refine x_Vi (q := 0) (As := [.int (nI j9), .int (nI j)]) (rest := [.int (nI k), .ref (ad 301)]) ⟨hx, hb, hml, hown, hts⟩ (k_X5_check_no l D ca N ad B tR tK f_10 dd hN n_5 (va_up g_6 2 (upd (g_6 2) k (nI j9))) zc znc tb hRk j9 (nI j) (by omega) (fun i hi => by rw [dz i]; exact hsz i hi) hr9 hf9) (cwV 2 hts gX5_due_X5_check rfl rfl rfl (by decide +kernel) ⟨Nat.le_of_ble_eq_true rfl, Nat.le_of_ble_eq_true rfl⟩) hK hE hB hw (by omega) c_0 rfl rfl rfl rfl hl.1 (Nat.le_of_ble_eq_true rfl) ⟨Nat.zero_le _, Nat.zero_le _⟩ dX5_due_70 (fun r_32 f_31 H locs hp hw => ?_)
            obtain ⟨er, hp⟩ := hp
            rw [← er]
            obtain ⟨z_33, zn_34, hR2, hfr2⟩ := hp
            obtain ⟨n_35, en_35⟩ : ∃ x, x = va_up n_5 5 ((n_5 5) + 1) := ⟨_, rfl⟩
            obtain ⟨g_36, eg_36⟩ : ∃ x, x = va_up (va_up (va_up (va_up (va_up g_6 2 (upd (g_6 2) k (nI j9))) 4 (upd ((va_up g_6 2 (upd (g_6 2) k (nI j9))) 4) (n_5 5) (nI 2))) 5 (upd ((va_up g_6 2 (upd (g_6 2) k (nI j9))) 5) (n_5 5) (nI j9))) 6 (upd ((va_up g_6 2 (upd (g_6 2) k (nI j9))) 6) (n_5 5) (nI j))) (1000 + (n_5 5)) (rowD (prevD (fun i8 => (va_up g_6 2 (upd (g_6 2) k (nI j9))) (1000 + i8)) (n_5 5)) (nI 2) (nI j9) (nI j)) := ⟨_, rfl⟩
            rw [← en_35, ← eg_36] at hR2
            have hfr : ∀ y, 302 ≤ y → f_31 y = f y := fun y hy => (hfr2 y hy).trans (hfr y hy)
            obtain ⟨c_0, c_1, c_2, c_3, c_4, c_5, c_6, c_7, c_8, c_9, c_90, c_91, c_92, c_93, c_94, c_95, c_96, c_97, c_98, c_99, c_300, c_301, F_kf, F_oc, F_va, F_lw, F_M, hzn, hT⟩ := hR2
            obtain ⟨q1, q2, q3⟩ := chkG_no (y := nI j) hf9 hr9
            have eC : g_36 = chkG n_5 (va_up g_6 2 (upd (g_6 2) k (nI j9))) j9 (nI j) := by rw [q1]; exact eg_36
            have eN : n_35 = appN n_5 := by rw [q2]; exact en_35
            have d0 : n_35 0 = n 0 := by rw [eN, appN_at (by decide)]; exact d0
            refine x_zast (j := k) hx hb hK dd hw 301 2 (by omega) c_301 rfl rfl (by omega) (by decide) (by first | exact Or.inl rfl | exact Or.inr rfl) dX5_due_73 (fun H locs hw => ?_)
            obtain ⟨f_37, ef_37⟩ : ∃ z, z = va_up f_31 301 (ai (ca 2) 20 (upd (g_36 3) k (nI 0))) := ⟨_, rfl⟩
            have hw : xw D vwCl N ad B s.heap f_37 H locs := by rw [ef_37]; exact hw
            have c_301 : f_37 301 = ai (ca 2) 20 (upd (g_36 3) k (nI 0)) := va_up_of ef_37
            refine lv_aload_n hx hb dX5_due_74 rfl (lv_at hl 1 rfl) ?_
            refine lv_iload_n hx hb dX5_due_75 rfl (lv_at hl 3 rfl) ?_
            refine lv_iconst (v := nI 1) hx hb dX5_due_76 (by decide) ?_
            refine n_iadd hx hb dX5_due_77 ?_
            have c_0 : f_37 0 = .inr (6, [.int (nI (n_35 0)), .ref (ad 1), .ref (ad 4), .ref (ad 6), .ref (ad 8), .int (nI (n_35 1)), .ref (ad 9), .int (nI (n_35 2)), .ref (ad 90), .ref (ad 300), .ref (ad 301), .int (nI (n_35 3)), .int (g_36 13 0)]) := by rw [ef_37, va_up_ne _ _ (by decide)]; exact c_0
            refine x_put (ci := 6) (C := RX5) (T := TX5) (n := 13) (ref := RX5) (fs' := [.int (nI (n_35 0)), .ref (ad 1), .ref (ad 4), .ref (ad 6), .ref (ad 8), .int (nI (n_35 1)), .ref (ad 9), .int (nI (n_35 2)), .ref (ad 90), .ref (ad 300), .ref (ad 301), .int (nI (k + 1)), .int (g_36 13 0)]) hx hb hts hin_6 tyX5 tyX5_ok nmX5 hown hK dd hw 0 (by omega) c_0 rfl 11 (by decide) hf_150 (fun _ h => h) rfl rfl rfl (Nat.le_of_ble_eq_true rfl) rfl dX5_due_78 (fun H locs hw => ?_)
            obtain ⟨f_38, ef_38⟩ : ∃ z, z = va_up f_37 0 (.inr (6, [.int (nI (n_35 0)), .ref (ad 1), .ref (ad 4), .ref (ad 6), .ref (ad 8), .int (nI (n_35 1)), .ref (ad 9), .int (nI (n_35 2)), .ref (ad 90), .ref (ad 300), .ref (ad 301), .int (nI (k + 1)), .int (g_36 13 0)])) := ⟨_, rfl⟩
            have hw : xw D vwCl N ad B s.heap f_38 H locs := by rw [ef_38]; exact hw
            have c_0 : f_38 0 = .inr (6, [.int (nI (n_35 0)), .ref (ad 1), .ref (ad 4), .ref (ad 6), .ref (ad 8), .int (nI (n_35 1)), .ref (ad 9), .int (nI (n_35 2)), .ref (ad 90), .ref (ad 300), .ref (ad 301), .int (nI (k + 1)), .int (g_36 13 0)]) := va_up_of ef_38
            refine lv_aload_n hx hb dX5_due_81 rfl (lv_at hl 1 rfl) ?_
            refine x_get (ci := 6) (C := RX5) (T := TX5) (n := 13) (ref := RX5) hx hb hts hin_6 hown hK hw 0 (by omega) c_0 rfl 6 (by decide) hf_49 (fun _ h => h) rfl dX5_due_82 ?_
            refine lv_iload_n hx hb dX5_due_85 rfl (lv_at hl 0 rfl) ?_
            have c_9 : f_38 9 = aq (ca 3) 20 (fun i => some (ad (10 + 4 * i))) := by rw [ef_38, va_up_ne _ _ (by decide), ef_37, va_up_ne _ _ (by decide)]; exact c_9
            refine x_aald (j := j9) (a := ad (10 + 4 * j9)) hx hb hK hw 9 3 (by omega) c_9 rfl rfl (by omega) (by decide) rfl dX5_due_86 ?_
            refine lv_iload_n hx hb dX5_due_87 rfl (lv_at hl 2 rfl) ?_
            have c_10_4_j9 : f_38 (10 + 4 * j9) = .inr (1, [.ref (ad (11 + 4 * j9)), .ref (ad (13 + 4 * j9)), .int (g_36 7 j9), .int (g_36 8 j9), .int (g_36 9 j9), .int (g_36 10 j9), .int (g_36 11 j9), .int (g_36 12 j9)]) := by rw [ef_38, va_up_ne _ _ (by omega), ef_37, va_up_ne _ _ (by omega)]; exact (F_kf j9 (by omega))
            refine x_Vv (q := 10 + 4 * j9) (As := [.int (nI j)]) (rest := []) ⟨hx, hb, hml, hown, hts⟩ (k_X0_planBehind l D ca N ad B tR tK f_38 dd (10 + 4 * j9) (11 + 4 * j9) (13 + 4 * j9) (g_36 7 j9) (g_36 8 j9) (g_36 9 j9) (g_36 10 j9) (g_36 11 j9) (g_36 12 j9) (nI j) (by omega) c_10_4_j9  (by rw [eC, chkG_at (by decide) (by decide) (by decide) (by decide) (by decide)]; exact hj8.1) (by rw [eC, chkG_at (by decide) (by decide) (by decide) (by decide) (by decide)]; exact hj8.2)) (cwV 1 hts gX5_due_X0_planBehind rfl rfl rfl (by decide +kernel) ⟨Nat.le_of_ble_eq_true rfl, Nat.le_of_ble_eq_true rfl⟩) hK hE hB hw (by omega) c_10_4_j9 rfl rfl rfl rfl hl.1 (Nat.le_of_ble_eq_true rfl) ⟨Nat.zero_le _, Nat.zero_le _⟩ dX5_due_88 (fun f_39 H locs hp hw => ?_)
            have eu := hp
            have ef_39 : f_39 = va_up f_38 (10 + 4 * j9) (.inr (1, [.ref (ad (11 + 4 * j9)), .ref (ad (13 + 4 * j9)), .int (g_36 7 j9), .int (g_36 8 j9), .int (g_36 9 j9), .int ((g_36 10 j9) + (((nI j) - (g_36 10 j9)) / (g_36 11 j9) + nI 1) * (g_36 11 j9)), .int (g_36 11 j9), .int (g_36 12 j9)])) := eu
            have c_10_4_j9 : f_39 (10 + 4 * j9) = .inr (1, [.ref (ad (11 + 4 * j9)), .ref (ad (13 + 4 * j9)), .int (g_36 7 j9), .int (g_36 8 j9), .int (g_36 9 j9), .int ((g_36 10 j9) + (((nI j) - (g_36 10 j9)) / (g_36 11 j9) + nI 1) * (g_36 11 j9)), .int (g_36 11 j9), .int (g_36 12 j9)]) := by rw [ef_39, va_up_self]
            refine lv_iinc (v := nI (k + 1)) (lv' := [(2, .int (nI (k + 1))), (3, .int (nI j9)), (0, .ref (ad 0)), (1, .int (nI j))]) hx hb dX5_due_91 hl (k := 3) rfl (by rw [show Int32.ofInt 1 = nI 1 from rfl]; exact nI_add _ _) (by decide) rfl (fun ls hl => ?_)
            refine lv_goto (tgt := 33) hx hb dX5_due_94 (by decide) ?_
            have c_0 : f_39 0 = .inr (6, [.int (nI (n_35 0)), .ref (ad 1), .ref (ad 4), .ref (ad 6), .ref (ad 8), .int (nI (n_35 1)), .ref (ad 9), .int (nI (n_35 2)), .ref (ad 90), .ref (ad 300), .ref (ad 301), .int (nI (k + 1)), .int (g_36 13 0)]) := by rw [ef_39, va_up_ne _ _ (by omega)]; exact c_0
            have c_1 : f_39 1 = .inr (2, [.ref (ad 2), .ref (ad 3)]) := by rw [ef_39, va_up_ne _ _ (by omega), ef_38, va_up_ne _ _ (by decide), ef_37, va_up_ne _ _ (by decide)]; exact c_1
            have c_2 : f_39 2 = ai (ca 0) 8 (z_33 0) := by rw [ef_39, va_up_ne _ _ (by omega), ef_38, va_up_ne _ _ (by decide), ef_37, va_up_ne _ _ (by decide)]; exact c_2
            have c_3 : f_39 3 = ai (ca 0) 64 (z_33 1) := by rw [ef_39, va_up_ne _ _ (by omega), ef_38, va_up_ne _ _ (by decide), ef_37, va_up_ne _ _ (by decide)]; exact c_3
            have c_4 : f_39 4 = .inr (5, [.ref (ad 5)]) := by rw [ef_39, va_up_ne _ _ (by omega), ef_38, va_up_ne _ _ (by decide), ef_37, va_up_ne _ _ (by decide)]; exact c_4
            have c_5 : f_39 5 = ai (ca 0) 256 tb := by rw [ef_39, va_up_ne _ _ (by omega), ef_38, va_up_ne _ _ (by decide), ef_37, va_up_ne _ _ (by decide)]; exact c_5
            have c_6 : f_39 6 = .inr (3, [.ref (ad 7), .int (nI (n_35 4))]) := by rw [ef_39, va_up_ne _ _ (by omega), ef_38, va_up_ne _ _ (by decide), ef_37, va_up_ne _ _ (by decide)]; exact c_6
            have c_7 : f_39 7 = ai (ca 0) 200 (g_36 0) := by rw [ef_39, va_up_ne _ _ (by omega), ef_38, va_up_ne _ _ (by decide), ef_37, va_up_ne _ _ (by decide)]; exact c_7
            have c_8 : f_39 8 = ai (ca 0) 8 (g_36 1) := by rw [ef_39, va_up_ne _ _ (by omega), ef_38, va_up_ne _ _ (by decide), ef_37, va_up_ne _ _ (by decide)]; exact c_8
            have c_9 : f_39 9 = aq (ca 3) 20 (fun i => some (ad (10 + 4 * i))) := by rw [ef_39, va_up_ne _ _ (by omega)]; exact c_9
            have c_90 : f_39 90 = .inr (4, [.ref (ad 91), .ref (ad 94), .ref (ad 96), .ref (ad 97), .ref (ad 98), .ref (ad 99), .int (nI (n_35 5))]) := by rw [ef_39, va_up_ne _ _ (by omega), ef_38, va_up_ne _ _ (by decide), ef_37, va_up_ne _ _ (by decide)]; exact c_90
            have c_91 : f_39 91 = .inr (2, [.ref (ad 92), .ref (ad 93)]) := by rw [ef_39, va_up_ne _ _ (by omega), ef_38, va_up_ne _ _ (by decide), ef_37, va_up_ne _ _ (by decide)]; exact c_91
            have c_92 : f_39 92 = ai (ca 0) 8 (z_33 2) := by rw [ef_39, va_up_ne _ _ (by omega), ef_38, va_up_ne _ _ (by decide), ef_37, va_up_ne _ _ (by decide)]; exact c_92
            have c_93 : f_39 93 = ai (ca 0) 64 (z_33 3) := by rw [ef_39, va_up_ne _ _ (by omega), ef_38, va_up_ne _ _ (by decide), ef_37, va_up_ne _ _ (by decide)]; exact c_93
            have c_94 : f_39 94 = .inr (3, [.ref (ad 95), .int (nI zn_34)]) := by rw [ef_39, va_up_ne _ _ (by omega), ef_38, va_up_ne _ _ (by decide), ef_37, va_up_ne _ _ (by decide)]; exact c_94
            have c_95 : f_39 95 = ai (ca 0) 200 (z_33 4) := by rw [ef_39, va_up_ne _ _ (by omega), ef_38, va_up_ne _ _ (by decide), ef_37, va_up_ne _ _ (by decide)]; exact c_95
            have c_96 : f_39 96 = ai (ca 0) 200 (g_36 4) := by rw [ef_39, va_up_ne _ _ (by omega), ef_38, va_up_ne _ _ (by decide), ef_37, va_up_ne _ _ (by decide)]; exact c_96
            have c_97 : f_39 97 = ai (ca 0) 200 (g_36 5) := by rw [ef_39, va_up_ne _ _ (by omega), ef_38, va_up_ne _ _ (by decide), ef_37, va_up_ne _ _ (by decide)]; exact c_97
            have c_98 : f_39 98 = ai (ca 0) 200 (g_36 6) := by rw [ef_39, va_up_ne _ _ (by omega), ef_38, va_up_ne _ _ (by decide), ef_37, va_up_ne _ _ (by decide)]; exact c_98
            have c_99 : f_39 99 = aq (ca 4) 200 (fun i => some (ad (100 + i))) := by rw [ef_39, va_up_ne _ _ (by omega), ef_38, va_up_ne _ _ (by decide), ef_37, va_up_ne _ _ (by decide)]; exact c_99
            have c_300 : f_39 300 = ai (ca 0) 20 (g_36 2) := by rw [ef_39, va_up_ne _ _ (by omega), ef_38, va_up_ne _ _ (by decide), ef_37, va_up_ne _ _ (by decide)]; exact c_300
            have c_301 : f_39 301 = ai (ca 2) 20 (upd (g_36 3) k (nI 0)) := by rw [ef_39, va_up_ne _ _ (by omega), ef_38, va_up_ne _ _ (by decide)]; exact c_301
            have qn_0 : (va_up n_35 3 (k + 1)) 0 = n_35 0 := by rw [va_up_ne _ _ (by decide)]
            have qn_1 : (va_up n_35 3 (k + 1)) 1 = n_35 1 := by rw [va_up_ne _ _ (by decide)]
            have qn_2 : (va_up n_35 3 (k + 1)) 2 = n_35 2 := by rw [va_up_ne _ _ (by decide)]
            have qn_3 : (va_up n_35 3 (k + 1)) 3 = k + 1 := by rw [va_up_self]
            have qn_4 : (va_up n_35 3 (k + 1)) 4 = n_35 4 := by rw [va_up_ne _ _ (by decide)]
            have qn_5 : (va_up n_35 3 (k + 1)) 5 = n_35 5 := by rw [va_up_ne _ _ (by decide)]
            have qg_0 : (va_up (va_up g_36 3 (upd (g_36 3) k (nI 0))) 10 (upd (g_36 10) j9 ((g_36 10 j9) + (((nI j) - (g_36 10 j9)) / (g_36 11 j9) + nI 1) * (g_36 11 j9)))) 0 = g_36 0 := by rw [va_up_ne _ _ (by decide), va_up_ne _ _ (by decide)]
            have qg_1 : (va_up (va_up g_36 3 (upd (g_36 3) k (nI 0))) 10 (upd (g_36 10) j9 ((g_36 10 j9) + (((nI j) - (g_36 10 j9)) / (g_36 11 j9) + nI 1) * (g_36 11 j9)))) 1 = g_36 1 := by rw [va_up_ne _ _ (by decide), va_up_ne _ _ (by decide)]
            have qg_2 : (va_up (va_up g_36 3 (upd (g_36 3) k (nI 0))) 10 (upd (g_36 10) j9 ((g_36 10 j9) + (((nI j) - (g_36 10 j9)) / (g_36 11 j9) + nI 1) * (g_36 11 j9)))) 2 = g_36 2 := by rw [va_up_ne _ _ (by decide), va_up_ne _ _ (by decide)]
            have qg_3 : (va_up (va_up g_36 3 (upd (g_36 3) k (nI 0))) 10 (upd (g_36 10) j9 ((g_36 10 j9) + (((nI j) - (g_36 10 j9)) / (g_36 11 j9) + nI 1) * (g_36 11 j9)))) 3 = upd (g_36 3) k (nI 0) := by rw [va_up_ne _ _ (by decide), va_up_self]
            have qg_4 : (va_up (va_up g_36 3 (upd (g_36 3) k (nI 0))) 10 (upd (g_36 10) j9 ((g_36 10 j9) + (((nI j) - (g_36 10 j9)) / (g_36 11 j9) + nI 1) * (g_36 11 j9)))) 4 = g_36 4 := by rw [va_up_ne _ _ (by decide), va_up_ne _ _ (by decide)]
            have qg_5 : (va_up (va_up g_36 3 (upd (g_36 3) k (nI 0))) 10 (upd (g_36 10) j9 ((g_36 10 j9) + (((nI j) - (g_36 10 j9)) / (g_36 11 j9) + nI 1) * (g_36 11 j9)))) 5 = g_36 5 := by rw [va_up_ne _ _ (by decide), va_up_ne _ _ (by decide)]
            have qg_6 : (va_up (va_up g_36 3 (upd (g_36 3) k (nI 0))) 10 (upd (g_36 10) j9 ((g_36 10 j9) + (((nI j) - (g_36 10 j9)) / (g_36 11 j9) + nI 1) * (g_36 11 j9)))) 6 = g_36 6 := by rw [va_up_ne _ _ (by decide), va_up_ne _ _ (by decide)]
            have qg_7 : (va_up (va_up g_36 3 (upd (g_36 3) k (nI 0))) 10 (upd (g_36 10) j9 ((g_36 10 j9) + (((nI j) - (g_36 10 j9)) / (g_36 11 j9) + nI 1) * (g_36 11 j9)))) 7 = g_36 7 := by rw [va_up_ne _ _ (by decide), va_up_ne _ _ (by decide)]
            have qg_8 : (va_up (va_up g_36 3 (upd (g_36 3) k (nI 0))) 10 (upd (g_36 10) j9 ((g_36 10 j9) + (((nI j) - (g_36 10 j9)) / (g_36 11 j9) + nI 1) * (g_36 11 j9)))) 8 = g_36 8 := by rw [va_up_ne _ _ (by decide), va_up_ne _ _ (by decide)]
            have qg_9 : (va_up (va_up g_36 3 (upd (g_36 3) k (nI 0))) 10 (upd (g_36 10) j9 ((g_36 10 j9) + (((nI j) - (g_36 10 j9)) / (g_36 11 j9) + nI 1) * (g_36 11 j9)))) 9 = g_36 9 := by rw [va_up_ne _ _ (by decide), va_up_ne _ _ (by decide)]
            have qg_10 : (va_up (va_up g_36 3 (upd (g_36 3) k (nI 0))) 10 (upd (g_36 10) j9 ((g_36 10 j9) + (((nI j) - (g_36 10 j9)) / (g_36 11 j9) + nI 1) * (g_36 11 j9)))) 10 = upd (g_36 10) j9 ((g_36 10 j9) + (((nI j) - (g_36 10 j9)) / (g_36 11 j9) + nI 1) * (g_36 11 j9)) := by rw [va_up_self]
            have qg_11 : (va_up (va_up g_36 3 (upd (g_36 3) k (nI 0))) 10 (upd (g_36 10) j9 ((g_36 10 j9) + (((nI j) - (g_36 10 j9)) / (g_36 11 j9) + nI 1) * (g_36 11 j9)))) 11 = g_36 11 := by rw [va_up_ne _ _ (by decide), va_up_ne _ _ (by decide)]
            have qg_12 : (va_up (va_up g_36 3 (upd (g_36 3) k (nI 0))) 10 (upd (g_36 10) j9 ((g_36 10 j9) + (((nI j) - (g_36 10 j9)) / (g_36 11 j9) + nI 1) * (g_36 11 j9)))) 12 = g_36 12 := by rw [va_up_ne _ _ (by decide), va_up_ne _ _ (by decide)]
            have qg_13 : (va_up (va_up g_36 3 (upd (g_36 3) k (nI 0))) 10 (upd (g_36 10) j9 ((g_36 10 j9) + (((nI j) - (g_36 10 j9)) / (g_36 11 j9) + nI 1) * (g_36 11 j9)))) 13 = g_36 13 := by rw [va_up_ne _ _ (by decide), va_up_ne _ _ (by decide)]
            have hRk : RepX ca ad (va_up n_35 3 (k + 1)) (va_up (va_up g_36 3 (upd (g_36 3) k (nI 0))) 10 (upd (g_36 10) j9 ((g_36 10 j9) + (((nI j) - (g_36 10 j9)) / (g_36 11 j9) + nI 1) * (g_36 11 j9)))) z_33 zn_34 tb f_39 := ⟨(by rw [qn_0, qn_1, qn_2, qn_3, qg_13]; exact c_0),
                  c_1,
                  c_2,
                  c_3,
                  c_4,
                  c_5,
                  (by rw [qn_4]; exact c_6),
                  (by rw [qg_0]; exact c_7),
                  (by rw [qg_1]; exact c_8),
                  c_9,
                  (by rw [qn_5]; exact c_90),
                  c_91,
                  c_92,
                  c_93,
                  c_94,
                  c_95,
                  (by rw [qg_4]; exact c_96),
                  (by rw [qg_5]; exact c_97),
                  (by rw [qg_6]; exact c_98),
                  c_99,
                  (by rw [qg_2]; exact c_300),
                  (by rw [qg_3]; exact c_301),
                  (fun i9 hi9 => by
                  by_cases ei : i9 = j9
                  · rw [ei]; simp only [qg_7, qg_8, qg_9, qg_10, qg_11, qg_12, pk_us]; exact c_10_4_j9
                  · simp only [qg_7, qg_8, qg_9, qg_10, qg_11, qg_12, pk_un ei]; rw [ef_39, va_up_ne _ _ (by omega), ef_38, va_up_ne _ _ (by omega), ef_37, va_up_ne _ _ (by omega)]; exact F_kf i9 hi9),
                  (fun i9 hi9 => by rw [va_up_ne _ _ (by omega)]; rw [ef_39, va_up_ne _ _ (by omega), ef_38, va_up_ne _ _ (by omega), ef_37, va_up_ne _ _ (by omega)]; exact F_oc i9 hi9),
                  (fun i9 hi9 => by rw [va_up_ne _ _ (by omega), va_up_ne _ _ (by omega)]; rw [ef_39, va_up_ne _ _ (by omega), ef_38, va_up_ne _ _ (by omega), ef_37, va_up_ne _ _ (by omega)]; exact F_va i9 hi9),
                  (fun i9 hi9 => by rw [va_up_ne _ _ (by omega), va_up_ne _ _ (by omega)]; rw [ef_39, va_up_ne _ _ (by omega), ef_38, va_up_ne _ _ (by omega), ef_37, va_up_ne _ _ (by omega)]; exact F_lw i9 hi9),
                  (fun i9 hi9 => by rw [va_up_ne _ _ (by omega), va_up_ne _ _ (by omega)]; rw [ef_39, va_up_ne _ _ (by omega), ef_38, va_up_ne _ _ (by omega), ef_37, va_up_ne _ _ (by omega)]; exact F_M i9 hi9), hzn, hT⟩
            have hfr : ∀ y, 302 ≤ y → f_39 y = f y := (fun y hy => by rw [ef_39, va_up_ne _ _ (by omega), ef_38, va_up_ne _ _ (by omega), ef_37, va_up_ne _ _ (by omega)]; exact hfr y hy)
            have hRk : RepX ca ad ((dueS n g (nI j) (k + 1)).1) ((dueS n g (nI j) (k + 1)).2) z_33 zn_34 tb f_39 := by rw [dueS_some (n := n) (g := g) (y := nI j) (k := k) (j := j9) (by rw [← eg_6, ← d2]; exact ej9), ← en_5, ← eg_6]; show RepX ca ad (va_up (appN n_5) 3 (k + 1)) _ _ _ tb _; unfold dueStep; rw [← eN, ← eC, q3]; exact hRk
            exact ih_33 (k + 1) _ _ _ _ _ _ (by omega) (by omega) hRk hfr hw (lv_sub hl [2, 3, 0] rfl)
          · refine lv_aload_n hx hb dX5_due_67 rfl (lv_at hl 1 rfl) ?_
            refine lv_iload_n hx hb dX5_due_68 rfl (lv_at hl 0 rfl) ?_
            refine lv_iload_n hx hb dX5_due_69 rfl (lv_at hl 2 rfl) ?_
            have c_1 : f_10 1 = .inr (2, [.ref (ad 2), .ref (ad 3)]) := by rw [ef_10, va_up_ne _ _ (by decide)]; exact c_1
            have c_2 : f_10 2 = ai (ca 0) 8 (zc 0) := by rw [ef_10, va_up_ne _ _ (by decide)]; exact c_2
            have c_3 : f_10 3 = ai (ca 0) 64 (zc 1) := by rw [ef_10, va_up_ne _ _ (by decide)]; exact c_3
            have c_4 : f_10 4 = .inr (5, [.ref (ad 5)]) := by rw [ef_10, va_up_ne _ _ (by decide)]; exact c_4
            have c_5 : f_10 5 = ai (ca 0) 256 tb := by rw [ef_10, va_up_ne _ _ (by decide)]; exact c_5
            have c_6 : f_10 6 = .inr (3, [.ref (ad 7), .int (nI (n_5 4))]) := by rw [ef_10, va_up_ne _ _ (by decide)]; exact c_6
            have c_7 : f_10 7 = ai (ca 0) 200 (g_6 0) := by rw [ef_10, va_up_ne _ _ (by decide)]; exact c_7
            have c_8 : f_10 8 = ai (ca 0) 8 (g_6 1) := by rw [ef_10, va_up_ne _ _ (by decide)]; exact c_8
            have c_9 : f_10 9 = aq (ca 3) 20 (fun i => some (ad (10 + 4 * i))) := by rw [ef_10, va_up_ne _ _ (by decide)]; exact c_9
            have c_90 : f_10 90 = .inr (4, [.ref (ad 91), .ref (ad 94), .ref (ad 96), .ref (ad 97), .ref (ad 98), .ref (ad 99), .int (nI (n_5 5))]) := by rw [ef_10, va_up_ne _ _ (by decide)]; exact c_90
            have c_91 : f_10 91 = .inr (2, [.ref (ad 92), .ref (ad 93)]) := by rw [ef_10, va_up_ne _ _ (by decide)]; exact c_91
            have c_92 : f_10 92 = ai (ca 0) 8 (zc 2) := by rw [ef_10, va_up_ne _ _ (by decide)]; exact c_92
            have c_93 : f_10 93 = ai (ca 0) 64 (zc 3) := by rw [ef_10, va_up_ne _ _ (by decide)]; exact c_93
            have c_94 : f_10 94 = .inr (3, [.ref (ad 95), .int (nI znc)]) := by rw [ef_10, va_up_ne _ _ (by decide)]; exact c_94
            have c_95 : f_10 95 = ai (ca 0) 200 (zc 4) := by rw [ef_10, va_up_ne _ _ (by decide)]; exact c_95
            have c_96 : f_10 96 = ai (ca 0) 200 (g_6 4) := by rw [ef_10, va_up_ne _ _ (by decide)]; exact c_96
            have c_97 : f_10 97 = ai (ca 0) 200 (g_6 5) := by rw [ef_10, va_up_ne _ _ (by decide)]; exact c_97
            have c_98 : f_10 98 = ai (ca 0) 200 (g_6 6) := by rw [ef_10, va_up_ne _ _ (by decide)]; exact c_98
            have c_99 : f_10 99 = aq (ca 4) 200 (fun i => some (ad (100 + i))) := by rw [ef_10, va_up_ne _ _ (by decide)]; exact c_99
            have c_301 : f_10 301 = ai (ca 2) 20 (g_6 3) := by rw [ef_10, va_up_ne _ _ (by decide)]; exact c_301
            have qg_0 : (va_up g_6 2 (upd (g_6 2) k (nI j9))) 0 = g_6 0 := by rw [va_up_ne _ _ (by decide)]
            have qg_1 : (va_up g_6 2 (upd (g_6 2) k (nI j9))) 1 = g_6 1 := by rw [va_up_ne _ _ (by decide)]
            have qg_2 : (va_up g_6 2 (upd (g_6 2) k (nI j9))) 2 = upd (g_6 2) k (nI j9) := by rw [va_up_self]
            have qg_3 : (va_up g_6 2 (upd (g_6 2) k (nI j9))) 3 = g_6 3 := by rw [va_up_ne _ _ (by decide)]
            have qg_4 : (va_up g_6 2 (upd (g_6 2) k (nI j9))) 4 = g_6 4 := by rw [va_up_ne _ _ (by decide)]
            have qg_5 : (va_up g_6 2 (upd (g_6 2) k (nI j9))) 5 = g_6 5 := by rw [va_up_ne _ _ (by decide)]
            have qg_6 : (va_up g_6 2 (upd (g_6 2) k (nI j9))) 6 = g_6 6 := by rw [va_up_ne _ _ (by decide)]
            have qg_7 : (va_up g_6 2 (upd (g_6 2) k (nI j9))) 7 = g_6 7 := by rw [va_up_ne _ _ (by decide)]
            have qg_8 : (va_up g_6 2 (upd (g_6 2) k (nI j9))) 8 = g_6 8 := by rw [va_up_ne _ _ (by decide)]
            have qg_9 : (va_up g_6 2 (upd (g_6 2) k (nI j9))) 9 = g_6 9 := by rw [va_up_ne _ _ (by decide)]
            have qg_10 : (va_up g_6 2 (upd (g_6 2) k (nI j9))) 10 = g_6 10 := by rw [va_up_ne _ _ (by decide)]
            have qg_11 : (va_up g_6 2 (upd (g_6 2) k (nI j9))) 11 = g_6 11 := by rw [va_up_ne _ _ (by decide)]
            have qg_12 : (va_up g_6 2 (upd (g_6 2) k (nI j9))) 12 = g_6 12 := by rw [va_up_ne _ _ (by decide)]
            have qg_13 : (va_up g_6 2 (upd (g_6 2) k (nI j9))) 13 = g_6 13 := by rw [va_up_ne _ _ (by decide)]
            have hRk : RepX ca ad n_5 (va_up g_6 2 (upd (g_6 2) k (nI j9))) zc znc tb f_10 := ⟨(by rw [qg_13]; exact c_0),
                  c_1,
                  c_2,
                  c_3,
                  c_4,
                  c_5,
                  c_6,
                  (by rw [qg_0]; exact c_7),
                  (by rw [qg_1]; exact c_8),
                  c_9,
                  c_90,
                  c_91,
                  c_92,
                  c_93,
                  c_94,
                  c_95,
                  (by rw [qg_4]; exact c_96),
                  (by rw [qg_5]; exact c_97),
                  (by rw [qg_6]; exact c_98),
                  c_99,
                  (by rw [qg_2]; exact c_300),
                  (by rw [qg_3]; exact c_301),
                  (fun i9 hi9 => by rw [qg_7, qg_8, qg_9, qg_10, qg_11, qg_12]; rw [ef_10, va_up_ne _ _ (by omega)]; exact F_kf i9 hi9),
                  (fun i9 hi9 => by rw [ef_10, va_up_ne _ _ (by omega)]; exact F_oc i9 hi9),
                  (fun i9 hi9 => by rw [va_up_ne _ _ (by omega)]; rw [ef_10, va_up_ne _ _ (by omega)]; exact F_va i9 hi9),
                  (fun i9 hi9 => by rw [va_up_ne _ _ (by omega)]; rw [ef_10, va_up_ne _ _ (by omega)]; exact F_lw i9 hi9),
                  (fun i9 hi9 => by rw [va_up_ne _ _ (by omega)]; rw [ef_10, va_up_ne _ _ (by omega)]; exact F_M i9 hi9), hzn, hT⟩
            have hfr : ∀ y, 302 ≤ y → f_10 y = f y := (fun y hy => by rw [ef_10, va_up_ne _ _ (by omega)]; exact hfr y hy)
            refine x_Vi (q := 0) (As := [.int (nI j9), .int (nI j)]) (rest := [.int (nI k), .ref (ad 301)]) ⟨hx, hb, hml, hown, hts⟩ (k_X5_check_noF l D ca N ad B tR tK f_10 dd hN n_5 (va_up g_6 2 (upd (g_6 2) k (nI j9))) zc znc tb hRk j9 (nI j) (by omega) (fun i hi => by rw [dz i]; exact hsz i hi) hr9 hf9) (cwV 2 hts gX5_due_X5_check rfl rfl rfl (by decide +kernel) ⟨Nat.le_of_ble_eq_true rfl, Nat.le_of_ble_eq_true rfl⟩) hK hE hB hw (by omega) c_0 rfl rfl rfl rfl hl.1 (Nat.le_of_ble_eq_true rfl) ⟨Nat.zero_le _, Nat.zero_le _⟩ dX5_due_70 (fun r_42 f_41 H locs hp hw => ?_)
            obtain ⟨er, hp⟩ := hp
            rw [← er]
            obtain ⟨z_43, zn_44, hR2, hfr2⟩ := hp
            obtain ⟨g_46, eg_46⟩ : ∃ x, x = (va_up g_6 2 (upd (g_6 2) k (nI j9))) := ⟨_, rfl⟩
            rw [← eg_46] at hR2
            have hfr : ∀ y, 302 ≤ y → f_41 y = f y := fun y hy => (hfr2 y hy).trans (hfr y hy)
            obtain ⟨c_0, c_1, c_2, c_3, c_4, c_5, c_6, c_7, c_8, c_9, c_90, c_91, c_92, c_93, c_94, c_95, c_96, c_97, c_98, c_99, c_300, c_301, F_kf, F_oc, F_va, F_lw, F_M, hzn, hT⟩ := hR2
            obtain ⟨q1, q2, q3⟩ := chkG_noF (y := nI j) hf9 hr9
            have eC : g_46 = chkG n_5 (va_up g_6 2 (upd (g_6 2) k (nI j9))) j9 (nI j) := by rw [q1]; exact eg_46
            have eN : n_5 = appN n_5 := by rw [q2]
            have d0 : n_5 0 = n 0 := by rw [eN, appN_at (by decide)]; exact d0
            refine x_zast (j := k) hx hb hK dd hw 301 2 (by omega) c_301 rfl rfl (by omega) (by decide) (by first | exact Or.inl rfl | exact Or.inr rfl) dX5_due_73 (fun H locs hw => ?_)
            obtain ⟨f_47, ef_47⟩ : ∃ z, z = va_up f_41 301 (ai (ca 2) 20 (upd (g_46 3) k (nI 0))) := ⟨_, rfl⟩
            have hw : xw D vwCl N ad B s.heap f_47 H locs := by rw [ef_47]; exact hw
            have c_301 : f_47 301 = ai (ca 2) 20 (upd (g_46 3) k (nI 0)) := va_up_of ef_47
            refine lv_aload_n hx hb dX5_due_74 rfl (lv_at hl 1 rfl) ?_
            refine lv_iload_n hx hb dX5_due_75 rfl (lv_at hl 3 rfl) ?_
            refine lv_iconst (v := nI 1) hx hb dX5_due_76 (by decide) ?_
            refine n_iadd hx hb dX5_due_77 ?_
            have c_0 : f_47 0 = .inr (6, [.int (nI (n_5 0)), .ref (ad 1), .ref (ad 4), .ref (ad 6), .ref (ad 8), .int (nI (n_5 1)), .ref (ad 9), .int (nI (n_5 2)), .ref (ad 90), .ref (ad 300), .ref (ad 301), .int (nI (n_5 3)), .int (g_46 13 0)]) := by rw [ef_47, va_up_ne _ _ (by decide)]; exact c_0
            refine x_put (ci := 6) (C := RX5) (T := TX5) (n := 13) (ref := RX5) (fs' := [.int (nI (n_5 0)), .ref (ad 1), .ref (ad 4), .ref (ad 6), .ref (ad 8), .int (nI (n_5 1)), .ref (ad 9), .int (nI (n_5 2)), .ref (ad 90), .ref (ad 300), .ref (ad 301), .int (nI (k + 1)), .int (g_46 13 0)]) hx hb hts hin_6 tyX5 tyX5_ok nmX5 hown hK dd hw 0 (by omega) c_0 rfl 11 (by decide) hf_150 (fun _ h => h) rfl rfl rfl (Nat.le_of_ble_eq_true rfl) rfl dX5_due_78 (fun H locs hw => ?_)
            obtain ⟨f_48, ef_48⟩ : ∃ z, z = va_up f_47 0 (.inr (6, [.int (nI (n_5 0)), .ref (ad 1), .ref (ad 4), .ref (ad 6), .ref (ad 8), .int (nI (n_5 1)), .ref (ad 9), .int (nI (n_5 2)), .ref (ad 90), .ref (ad 300), .ref (ad 301), .int (nI (k + 1)), .int (g_46 13 0)])) := ⟨_, rfl⟩
            have hw : xw D vwCl N ad B s.heap f_48 H locs := by rw [ef_48]; exact hw
            have c_0 : f_48 0 = .inr (6, [.int (nI (n_5 0)), .ref (ad 1), .ref (ad 4), .ref (ad 6), .ref (ad 8), .int (nI (n_5 1)), .ref (ad 9), .int (nI (n_5 2)), .ref (ad 90), .ref (ad 300), .ref (ad 301), .int (nI (k + 1)), .int (g_46 13 0)]) := va_up_of ef_48
            refine lv_aload_n hx hb dX5_due_81 rfl (lv_at hl 1 rfl) ?_
            refine x_get (ci := 6) (C := RX5) (T := TX5) (n := 13) (ref := RX5) hx hb hts hin_6 hown hK hw 0 (by omega) c_0 rfl 6 (by decide) hf_49 (fun _ h => h) rfl dX5_due_82 ?_
            refine lv_iload_n hx hb dX5_due_85 rfl (lv_at hl 0 rfl) ?_
            have c_9 : f_48 9 = aq (ca 3) 20 (fun i => some (ad (10 + 4 * i))) := by rw [ef_48, va_up_ne _ _ (by decide), ef_47, va_up_ne _ _ (by decide)]; exact c_9
            refine x_aald (j := j9) (a := ad (10 + 4 * j9)) hx hb hK hw 9 3 (by omega) c_9 rfl rfl (by omega) (by decide) rfl dX5_due_86 ?_
            refine lv_iload_n hx hb dX5_due_87 rfl (lv_at hl 2 rfl) ?_
            have c_10_4_j9 : f_48 (10 + 4 * j9) = .inr (1, [.ref (ad (11 + 4 * j9)), .ref (ad (13 + 4 * j9)), .int (g_46 7 j9), .int (g_46 8 j9), .int (g_46 9 j9), .int (g_46 10 j9), .int (g_46 11 j9), .int (g_46 12 j9)]) := by rw [ef_48, va_up_ne _ _ (by omega), ef_47, va_up_ne _ _ (by omega)]; exact (F_kf j9 (by omega))
            refine x_Vv (q := 10 + 4 * j9) (As := [.int (nI j)]) (rest := []) ⟨hx, hb, hml, hown, hts⟩ (k_X0_planBehind l D ca N ad B tR tK f_48 dd (10 + 4 * j9) (11 + 4 * j9) (13 + 4 * j9) (g_46 7 j9) (g_46 8 j9) (g_46 9 j9) (g_46 10 j9) (g_46 11 j9) (g_46 12 j9) (nI j) (by omega) c_10_4_j9  (by rw [eC, chkG_at (by decide) (by decide) (by decide) (by decide) (by decide)]; exact hj8.1) (by rw [eC, chkG_at (by decide) (by decide) (by decide) (by decide) (by decide)]; exact hj8.2)) (cwV 1 hts gX5_due_X0_planBehind rfl rfl rfl (by decide +kernel) ⟨Nat.le_of_ble_eq_true rfl, Nat.le_of_ble_eq_true rfl⟩) hK hE hB hw (by omega) c_10_4_j9 rfl rfl rfl rfl hl.1 (Nat.le_of_ble_eq_true rfl) ⟨Nat.zero_le _, Nat.zero_le _⟩ dX5_due_88 (fun f_49 H locs hp hw => ?_)
            have eu := hp
            have ef_49 : f_49 = va_up f_48 (10 + 4 * j9) (.inr (1, [.ref (ad (11 + 4 * j9)), .ref (ad (13 + 4 * j9)), .int (g_46 7 j9), .int (g_46 8 j9), .int (g_46 9 j9), .int ((g_46 10 j9) + (((nI j) - (g_46 10 j9)) / (g_46 11 j9) + nI 1) * (g_46 11 j9)), .int (g_46 11 j9), .int (g_46 12 j9)])) := eu
            have c_10_4_j9 : f_49 (10 + 4 * j9) = .inr (1, [.ref (ad (11 + 4 * j9)), .ref (ad (13 + 4 * j9)), .int (g_46 7 j9), .int (g_46 8 j9), .int (g_46 9 j9), .int ((g_46 10 j9) + (((nI j) - (g_46 10 j9)) / (g_46 11 j9) + nI 1) * (g_46 11 j9)), .int (g_46 11 j9), .int (g_46 12 j9)]) := by rw [ef_49, va_up_self]
            refine lv_iinc (v := nI (k + 1)) (lv' := [(2, .int (nI (k + 1))), (3, .int (nI j9)), (0, .ref (ad 0)), (1, .int (nI j))]) hx hb dX5_due_91 hl (k := 3) rfl (by rw [show Int32.ofInt 1 = nI 1 from rfl]; exact nI_add _ _) (by decide) rfl (fun ls hl => ?_)
            refine lv_goto (tgt := 33) hx hb dX5_due_94 (by decide) ?_
            have c_0 : f_49 0 = .inr (6, [.int (nI (n_5 0)), .ref (ad 1), .ref (ad 4), .ref (ad 6), .ref (ad 8), .int (nI (n_5 1)), .ref (ad 9), .int (nI (n_5 2)), .ref (ad 90), .ref (ad 300), .ref (ad 301), .int (nI (k + 1)), .int (g_46 13 0)]) := by rw [ef_49, va_up_ne _ _ (by omega)]; exact c_0
            have c_1 : f_49 1 = .inr (2, [.ref (ad 2), .ref (ad 3)]) := by rw [ef_49, va_up_ne _ _ (by omega), ef_48, va_up_ne _ _ (by decide), ef_47, va_up_ne _ _ (by decide)]; exact c_1
            have c_2 : f_49 2 = ai (ca 0) 8 (z_43 0) := by rw [ef_49, va_up_ne _ _ (by omega), ef_48, va_up_ne _ _ (by decide), ef_47, va_up_ne _ _ (by decide)]; exact c_2
            have c_3 : f_49 3 = ai (ca 0) 64 (z_43 1) := by rw [ef_49, va_up_ne _ _ (by omega), ef_48, va_up_ne _ _ (by decide), ef_47, va_up_ne _ _ (by decide)]; exact c_3
            have c_4 : f_49 4 = .inr (5, [.ref (ad 5)]) := by rw [ef_49, va_up_ne _ _ (by omega), ef_48, va_up_ne _ _ (by decide), ef_47, va_up_ne _ _ (by decide)]; exact c_4
            have c_5 : f_49 5 = ai (ca 0) 256 tb := by rw [ef_49, va_up_ne _ _ (by omega), ef_48, va_up_ne _ _ (by decide), ef_47, va_up_ne _ _ (by decide)]; exact c_5
            have c_6 : f_49 6 = .inr (3, [.ref (ad 7), .int (nI (n_5 4))]) := by rw [ef_49, va_up_ne _ _ (by omega), ef_48, va_up_ne _ _ (by decide), ef_47, va_up_ne _ _ (by decide)]; exact c_6
            have c_7 : f_49 7 = ai (ca 0) 200 (g_46 0) := by rw [ef_49, va_up_ne _ _ (by omega), ef_48, va_up_ne _ _ (by decide), ef_47, va_up_ne _ _ (by decide)]; exact c_7
            have c_8 : f_49 8 = ai (ca 0) 8 (g_46 1) := by rw [ef_49, va_up_ne _ _ (by omega), ef_48, va_up_ne _ _ (by decide), ef_47, va_up_ne _ _ (by decide)]; exact c_8
            have c_9 : f_49 9 = aq (ca 3) 20 (fun i => some (ad (10 + 4 * i))) := by rw [ef_49, va_up_ne _ _ (by omega)]; exact c_9
            have c_90 : f_49 90 = .inr (4, [.ref (ad 91), .ref (ad 94), .ref (ad 96), .ref (ad 97), .ref (ad 98), .ref (ad 99), .int (nI (n_5 5))]) := by rw [ef_49, va_up_ne _ _ (by omega), ef_48, va_up_ne _ _ (by decide), ef_47, va_up_ne _ _ (by decide)]; exact c_90
            have c_91 : f_49 91 = .inr (2, [.ref (ad 92), .ref (ad 93)]) := by rw [ef_49, va_up_ne _ _ (by omega), ef_48, va_up_ne _ _ (by decide), ef_47, va_up_ne _ _ (by decide)]; exact c_91
            have c_92 : f_49 92 = ai (ca 0) 8 (z_43 2) := by rw [ef_49, va_up_ne _ _ (by omega), ef_48, va_up_ne _ _ (by decide), ef_47, va_up_ne _ _ (by decide)]; exact c_92
            have c_93 : f_49 93 = ai (ca 0) 64 (z_43 3) := by rw [ef_49, va_up_ne _ _ (by omega), ef_48, va_up_ne _ _ (by decide), ef_47, va_up_ne _ _ (by decide)]; exact c_93
            have c_94 : f_49 94 = .inr (3, [.ref (ad 95), .int (nI zn_44)]) := by rw [ef_49, va_up_ne _ _ (by omega), ef_48, va_up_ne _ _ (by decide), ef_47, va_up_ne _ _ (by decide)]; exact c_94
            have c_95 : f_49 95 = ai (ca 0) 200 (z_43 4) := by rw [ef_49, va_up_ne _ _ (by omega), ef_48, va_up_ne _ _ (by decide), ef_47, va_up_ne _ _ (by decide)]; exact c_95
            have c_96 : f_49 96 = ai (ca 0) 200 (g_46 4) := by rw [ef_49, va_up_ne _ _ (by omega), ef_48, va_up_ne _ _ (by decide), ef_47, va_up_ne _ _ (by decide)]; exact c_96
            have c_97 : f_49 97 = ai (ca 0) 200 (g_46 5) := by rw [ef_49, va_up_ne _ _ (by omega), ef_48, va_up_ne _ _ (by decide), ef_47, va_up_ne _ _ (by decide)]; exact c_97
            have c_98 : f_49 98 = ai (ca 0) 200 (g_46 6) := by rw [ef_49, va_up_ne _ _ (by omega), ef_48, va_up_ne _ _ (by decide), ef_47, va_up_ne _ _ (by decide)]; exact c_98
            have c_99 : f_49 99 = aq (ca 4) 200 (fun i => some (ad (100 + i))) := by rw [ef_49, va_up_ne _ _ (by omega), ef_48, va_up_ne _ _ (by decide), ef_47, va_up_ne _ _ (by decide)]; exact c_99
            have c_300 : f_49 300 = ai (ca 0) 20 (g_46 2) := by rw [ef_49, va_up_ne _ _ (by omega), ef_48, va_up_ne _ _ (by decide), ef_47, va_up_ne _ _ (by decide)]; exact c_300
            have c_301 : f_49 301 = ai (ca 2) 20 (upd (g_46 3) k (nI 0)) := by rw [ef_49, va_up_ne _ _ (by omega), ef_48, va_up_ne _ _ (by decide)]; exact c_301
            have qn_0 : (va_up n_5 3 (k + 1)) 0 = n_5 0 := by rw [va_up_ne _ _ (by decide)]
            have qn_1 : (va_up n_5 3 (k + 1)) 1 = n_5 1 := by rw [va_up_ne _ _ (by decide)]
            have qn_2 : (va_up n_5 3 (k + 1)) 2 = n_5 2 := by rw [va_up_ne _ _ (by decide)]
            have qn_3 : (va_up n_5 3 (k + 1)) 3 = k + 1 := by rw [va_up_self]
            have qn_4 : (va_up n_5 3 (k + 1)) 4 = n_5 4 := by rw [va_up_ne _ _ (by decide)]
            have qn_5 : (va_up n_5 3 (k + 1)) 5 = n_5 5 := by rw [va_up_ne _ _ (by decide)]
            have qg_0 : (va_up (va_up g_46 3 (upd (g_46 3) k (nI 0))) 10 (upd (g_46 10) j9 ((g_46 10 j9) + (((nI j) - (g_46 10 j9)) / (g_46 11 j9) + nI 1) * (g_46 11 j9)))) 0 = g_46 0 := by rw [va_up_ne _ _ (by decide), va_up_ne _ _ (by decide)]
            have qg_1 : (va_up (va_up g_46 3 (upd (g_46 3) k (nI 0))) 10 (upd (g_46 10) j9 ((g_46 10 j9) + (((nI j) - (g_46 10 j9)) / (g_46 11 j9) + nI 1) * (g_46 11 j9)))) 1 = g_46 1 := by rw [va_up_ne _ _ (by decide), va_up_ne _ _ (by decide)]
            have qg_2 : (va_up (va_up g_46 3 (upd (g_46 3) k (nI 0))) 10 (upd (g_46 10) j9 ((g_46 10 j9) + (((nI j) - (g_46 10 j9)) / (g_46 11 j9) + nI 1) * (g_46 11 j9)))) 2 = g_46 2 := by rw [va_up_ne _ _ (by decide), va_up_ne _ _ (by decide)]
            have qg_3 : (va_up (va_up g_46 3 (upd (g_46 3) k (nI 0))) 10 (upd (g_46 10) j9 ((g_46 10 j9) + (((nI j) - (g_46 10 j9)) / (g_46 11 j9) + nI 1) * (g_46 11 j9)))) 3 = upd (g_46 3) k (nI 0) := by rw [va_up_ne _ _ (by decide), va_up_self]
            have qg_4 : (va_up (va_up g_46 3 (upd (g_46 3) k (nI 0))) 10 (upd (g_46 10) j9 ((g_46 10 j9) + (((nI j) - (g_46 10 j9)) / (g_46 11 j9) + nI 1) * (g_46 11 j9)))) 4 = g_46 4 := by rw [va_up_ne _ _ (by decide), va_up_ne _ _ (by decide)]
            have qg_5 : (va_up (va_up g_46 3 (upd (g_46 3) k (nI 0))) 10 (upd (g_46 10) j9 ((g_46 10 j9) + (((nI j) - (g_46 10 j9)) / (g_46 11 j9) + nI 1) * (g_46 11 j9)))) 5 = g_46 5 := by rw [va_up_ne _ _ (by decide), va_up_ne _ _ (by decide)]
            have qg_6 : (va_up (va_up g_46 3 (upd (g_46 3) k (nI 0))) 10 (upd (g_46 10) j9 ((g_46 10 j9) + (((nI j) - (g_46 10 j9)) / (g_46 11 j9) + nI 1) * (g_46 11 j9)))) 6 = g_46 6 := by rw [va_up_ne _ _ (by decide), va_up_ne _ _ (by decide)]
            have qg_7 : (va_up (va_up g_46 3 (upd (g_46 3) k (nI 0))) 10 (upd (g_46 10) j9 ((g_46 10 j9) + (((nI j) - (g_46 10 j9)) / (g_46 11 j9) + nI 1) * (g_46 11 j9)))) 7 = g_46 7 := by rw [va_up_ne _ _ (by decide), va_up_ne _ _ (by decide)]
            have qg_8 : (va_up (va_up g_46 3 (upd (g_46 3) k (nI 0))) 10 (upd (g_46 10) j9 ((g_46 10 j9) + (((nI j) - (g_46 10 j9)) / (g_46 11 j9) + nI 1) * (g_46 11 j9)))) 8 = g_46 8 := by rw [va_up_ne _ _ (by decide), va_up_ne _ _ (by decide)]
            have qg_9 : (va_up (va_up g_46 3 (upd (g_46 3) k (nI 0))) 10 (upd (g_46 10) j9 ((g_46 10 j9) + (((nI j) - (g_46 10 j9)) / (g_46 11 j9) + nI 1) * (g_46 11 j9)))) 9 = g_46 9 := by rw [va_up_ne _ _ (by decide), va_up_ne _ _ (by decide)]
            have qg_10 : (va_up (va_up g_46 3 (upd (g_46 3) k (nI 0))) 10 (upd (g_46 10) j9 ((g_46 10 j9) + (((nI j) - (g_46 10 j9)) / (g_46 11 j9) + nI 1) * (g_46 11 j9)))) 10 = upd (g_46 10) j9 ((g_46 10 j9) + (((nI j) - (g_46 10 j9)) / (g_46 11 j9) + nI 1) * (g_46 11 j9)) := by rw [va_up_self]
            have qg_11 : (va_up (va_up g_46 3 (upd (g_46 3) k (nI 0))) 10 (upd (g_46 10) j9 ((g_46 10 j9) + (((nI j) - (g_46 10 j9)) / (g_46 11 j9) + nI 1) * (g_46 11 j9)))) 11 = g_46 11 := by rw [va_up_ne _ _ (by decide), va_up_ne _ _ (by decide)]
            have qg_12 : (va_up (va_up g_46 3 (upd (g_46 3) k (nI 0))) 10 (upd (g_46 10) j9 ((g_46 10 j9) + (((nI j) - (g_46 10 j9)) / (g_46 11 j9) + nI 1) * (g_46 11 j9)))) 12 = g_46 12 := by rw [va_up_ne _ _ (by decide), va_up_ne _ _ (by decide)]
            have qg_13 : (va_up (va_up g_46 3 (upd (g_46 3) k (nI 0))) 10 (upd (g_46 10) j9 ((g_46 10 j9) + (((nI j) - (g_46 10 j9)) / (g_46 11 j9) + nI 1) * (g_46 11 j9)))) 13 = g_46 13 := by rw [va_up_ne _ _ (by decide), va_up_ne _ _ (by decide)]
            have hRk : RepX ca ad (va_up n_5 3 (k + 1)) (va_up (va_up g_46 3 (upd (g_46 3) k (nI 0))) 10 (upd (g_46 10) j9 ((g_46 10 j9) + (((nI j) - (g_46 10 j9)) / (g_46 11 j9) + nI 1) * (g_46 11 j9)))) z_43 zn_44 tb f_49 := ⟨(by rw [qn_0, qn_1, qn_2, qn_3, qg_13]; exact c_0),
                  c_1,
                  c_2,
                  c_3,
                  c_4,
                  c_5,
                  (by rw [qn_4]; exact c_6),
                  (by rw [qg_0]; exact c_7),
                  (by rw [qg_1]; exact c_8),
                  c_9,
                  (by rw [qn_5]; exact c_90),
                  c_91,
                  c_92,
                  c_93,
                  c_94,
                  c_95,
                  (by rw [qg_4]; exact c_96),
                  (by rw [qg_5]; exact c_97),
                  (by rw [qg_6]; exact c_98),
                  c_99,
                  (by rw [qg_2]; exact c_300),
                  (by rw [qg_3]; exact c_301),
                  (fun i9 hi9 => by
                  by_cases ei : i9 = j9
                  · rw [ei]; simp only [qg_7, qg_8, qg_9, qg_10, qg_11, qg_12, pk_us]; exact c_10_4_j9
                  · simp only [qg_7, qg_8, qg_9, qg_10, qg_11, qg_12, pk_un ei]; rw [ef_49, va_up_ne _ _ (by omega), ef_48, va_up_ne _ _ (by omega), ef_47, va_up_ne _ _ (by omega)]; exact F_kf i9 hi9),
                  (fun i9 hi9 => by rw [va_up_ne _ _ (by omega)]; rw [ef_49, va_up_ne _ _ (by omega), ef_48, va_up_ne _ _ (by omega), ef_47, va_up_ne _ _ (by omega)]; exact F_oc i9 hi9),
                  (fun i9 hi9 => by rw [va_up_ne _ _ (by omega), va_up_ne _ _ (by omega)]; rw [ef_49, va_up_ne _ _ (by omega), ef_48, va_up_ne _ _ (by omega), ef_47, va_up_ne _ _ (by omega)]; exact F_va i9 hi9),
                  (fun i9 hi9 => by rw [va_up_ne _ _ (by omega), va_up_ne _ _ (by omega)]; rw [ef_49, va_up_ne _ _ (by omega), ef_48, va_up_ne _ _ (by omega), ef_47, va_up_ne _ _ (by omega)]; exact F_lw i9 hi9),
                  (fun i9 hi9 => by rw [va_up_ne _ _ (by omega), va_up_ne _ _ (by omega)]; rw [ef_49, va_up_ne _ _ (by omega), ef_48, va_up_ne _ _ (by omega), ef_47, va_up_ne _ _ (by omega)]; exact F_M i9 hi9), hzn, hT⟩
            have hfr : ∀ y, 302 ≤ y → f_49 y = f y := (fun y hy => by rw [ef_49, va_up_ne _ _ (by omega), ef_48, va_up_ne _ _ (by omega), ef_47, va_up_ne _ _ (by omega)]; exact hfr y hy)
            have hRk : RepX ca ad ((dueS n g (nI j) (k + 1)).1) ((dueS n g (nI j) (k + 1)).2) z_43 zn_44 tb f_49 := by rw [dueS_some (n := n) (g := g) (y := nI j) (k := k) (j := j9) (by rw [← eg_6, ← d2]; exact ej9), ← en_5, ← eg_6]; show RepX ca ad (va_up (appN n_5) 3 (k + 1)) _ _ _ tb _; unfold dueStep; rw [← eN, ← eC, q3]; exact hRk
            exact ih_33 (k + 1) _ _ _ _ _ _ (by omega) (by omega) hRk hfr hw (lv_sub hl [2, 3, 0] rfl)
        · refine lv_goto (tgt := 97) hx hb dX5_due_52 (by decide) ?_
          have hRk : RepX ca ad n_5 g_6 zc znc tb fc := ⟨c_0,
                c_1,
                c_2,
                c_3,
                c_4,
                c_5,
                c_6,
                c_7,
                c_8,
                c_9,
                c_90,
                c_91,
                c_92,
                c_93,
                c_94,
                c_95,
                c_96,
                c_97,
                c_98,
                c_99,
                c_300,
                c_301,
                (fun i9 hi9 => by exact F_kf i9 hi9),
                (fun i9 hi9 => by exact F_oc i9 hi9),
                (fun i9 hi9 => by exact F_va i9 hi9),
                (fun i9 hi9 => by exact F_lw i9 hi9),
                (fun i9 hi9 => by exact F_M i9 hi9), hzn, hT⟩
          have hfr : ∀ y, 302 ≤ y → fc y = f y := (fun y hy => hfr y hy)
          have hRk : RepX ca ad ((dueS n g (nI j) (n 0)).1) ((dueS n g (nI j) (n 0)).2) zc znc tb fc := by have e8 := dueS_stop (n := n) (g := g) (y := nI j) (k := k) (by rw [← eg_6, ← d2]; exact oI_none (by rw [← ex_9]; exact hc_49) (fun q hq => by have := lwF_lt _ _ _ _ hq; omega)) (n 0 - k); rw [show k + (n 0 - k) = n 0 by omega] at e8; rw [e8, ← en_5, ← eg_6]; exact hRk
          exact P_97  _ _ _ _ _ _  hRk hfr hw (lv_sub hl [1, 2] rfl)
  refine lv_iload_n hx hb dX5_due_0 rfl (lv_at hl 1 rfl) ?_
  refine x_Si (As := [.int (nI j)]) (rest := []) ⟨hx, hb, hml, hown, hts⟩ (k_X5_isDay_yes l D ca N ad B tR tK f dd j   (by omega)) (va_cwS 1 hts gX5_due_X5_isDay rfl rfl rfl (by decide +kernel) ⟨Nat.le_of_ble_eq_true rfl, Nat.le_of_ble_eq_true rfl⟩) hK hE hB hw rfl rfl hl.1 (Nat.le_of_ble_eq_true rfl) ⟨Nat.zero_le _, Nat.zero_le _⟩ dX5_due_1 (fun r_52 f_51 H locs hp hw => ?_)
  obtain ⟨er, eu⟩ := hp
  rw [← er]
  rw [← eu] at hw
  refine lv_if_ne (tgt := 10) hx hb dX5_due_4 (by decide) (fun _ => ?_) (fun h => absurd h (by decide))
  refine lv_iload_n hx hb dX5_due_10 rfl (lv_at hl 1 rfl) ?_
  refine lv_aload_n hx hb dX5_due_11 rfl (lv_at hl 0 rfl) ?_
  refine x_get (ci := 6) (C := RX5) (T := TX5) (n := 13) (ref := RX5) hx hb hts hin_6 hown hK hw 0 (by omega) c_0 rfl 12 (by decide) hf_68 (fun _ h => h) rfl dX5_due_12 ?_
  refine lv_icmp_ge (tgt := 21) hx hb dX5_due_15 (by decide) (fun hc_15 => ?_) (fun hc_15 => ?_)
  · refine lv_aload_n hx hb dX5_due_21 rfl (lv_at hl 0 rfl) ?_
    refine lv_iload_n hx hb dX5_due_22 rfl (lv_at hl 1 rfl) ?_
    refine x_put (ci := 6) (C := RX5) (T := TX5) (n := 13) (ref := RX5) (fs' := [.int (nI (n 0)), .ref (ad 1), .ref (ad 4), .ref (ad 6), .ref (ad 8), .int (nI (n 1)), .ref (ad 9), .int (nI (n 2)), .ref (ad 90), .ref (ad 300), .ref (ad 301), .int (nI (n 3)), .int (nI j)]) hx hb hts hin_6 tyX5 tyX5_ok nmX5 hown hK dd hw 0 (by omega) c_0 rfl 12 (by decide) hf_68 (fun _ h => h) rfl rfl rfl (Nat.le_of_ble_eq_true rfl) rfl dX5_due_23 (fun H locs hw => ?_)
    obtain ⟨f_53, ef_53⟩ : ∃ z, z = va_up f 0 (.inr (6, [.int (nI (n 0)), .ref (ad 1), .ref (ad 4), .ref (ad 6), .ref (ad 8), .int (nI (n 1)), .ref (ad 9), .int (nI (n 2)), .ref (ad 90), .ref (ad 300), .ref (ad 301), .int (nI (n 3)), .int (nI j)])) := ⟨_, rfl⟩
    have hw : xw D vwCl N ad B s.heap f_53 H locs := by rw [ef_53]; exact hw
    have c_0 : f_53 0 = .inr (6, [.int (nI (n 0)), .ref (ad 1), .ref (ad 4), .ref (ad 6), .ref (ad 8), .int (nI (n 1)), .ref (ad 9), .int (nI (n 2)), .ref (ad 90), .ref (ad 300), .ref (ad 301), .int (nI (n 3)), .int (nI j)]) := va_up_of ef_53
    refine lv_aload_n hx hb dX5_due_26 rfl (lv_at hl 0 rfl) ?_
    refine lv_iconst (v := nI 0) hx hb dX5_due_27 (by decide) ?_
    refine x_put (ci := 6) (C := RX5) (T := TX5) (n := 13) (ref := RX5) (fs' := [.int (nI (n 0)), .ref (ad 1), .ref (ad 4), .ref (ad 6), .ref (ad 8), .int (nI (n 1)), .ref (ad 9), .int (nI (n 2)), .ref (ad 90), .ref (ad 300), .ref (ad 301), .int (nI 0), .int (nI j)]) hx hb hts hin_6 tyX5 tyX5_ok nmX5 hown hK dd hw 0 (by omega) c_0 rfl 11 (by decide) hf_150 (fun _ h => h) rfl rfl rfl (Nat.le_of_ble_eq_true rfl) rfl dX5_due_28 (fun H locs hw => ?_)
    obtain ⟨f_54, ef_54⟩ : ∃ z, z = va_up f_53 0 (.inr (6, [.int (nI (n 0)), .ref (ad 1), .ref (ad 4), .ref (ad 6), .ref (ad 8), .int (nI (n 1)), .ref (ad 9), .int (nI (n 2)), .ref (ad 90), .ref (ad 300), .ref (ad 301), .int (nI 0), .int (nI j)])) := ⟨_, rfl⟩
    have hw : xw D vwCl N ad B s.heap f_54 H locs := by rw [ef_54]; exact hw
    have c_0 : f_54 0 = .inr (6, [.int (nI (n 0)), .ref (ad 1), .ref (ad 4), .ref (ad 6), .ref (ad 8), .int (nI (n 1)), .ref (ad 9), .int (nI (n 2)), .ref (ad 90), .ref (ad 300), .ref (ad 301), .int (nI 0), .int (nI j)]) := va_up_of ef_54
    refine lv_iconst (v := nI 0) hx hb dX5_due_31 (by decide) ?_
    refine lv_istore_n (lv' := [(2, .int (nI 0)), (0, .ref (ad 0)), (1, .int (nI j))]) hx hb dX5_due_32 rfl hl (by decide) rfl (fun ls hl => ?_)
    have c_1 : f_54 1 = .inr (2, [.ref (ad 2), .ref (ad 3)]) := by rw [ef_54, va_up_ne _ _ (by decide), ef_53, va_up_ne _ _ (by decide)]; exact c_1
    have c_2 : f_54 2 = ai (ca 0) 8 (z 0) := by rw [ef_54, va_up_ne _ _ (by decide), ef_53, va_up_ne _ _ (by decide)]; exact c_2
    have c_3 : f_54 3 = ai (ca 0) 64 (z 1) := by rw [ef_54, va_up_ne _ _ (by decide), ef_53, va_up_ne _ _ (by decide)]; exact c_3
    have c_4 : f_54 4 = .inr (5, [.ref (ad 5)]) := by rw [ef_54, va_up_ne _ _ (by decide), ef_53, va_up_ne _ _ (by decide)]; exact c_4
    have c_5 : f_54 5 = ai (ca 0) 256 tb := by rw [ef_54, va_up_ne _ _ (by decide), ef_53, va_up_ne _ _ (by decide)]; exact c_5
    have c_6 : f_54 6 = .inr (3, [.ref (ad 7), .int (nI (n 4))]) := by rw [ef_54, va_up_ne _ _ (by decide), ef_53, va_up_ne _ _ (by decide)]; exact c_6
    have c_7 : f_54 7 = ai (ca 0) 200 (g 0) := by rw [ef_54, va_up_ne _ _ (by decide), ef_53, va_up_ne _ _ (by decide)]; exact c_7
    have c_8 : f_54 8 = ai (ca 0) 8 (g 1) := by rw [ef_54, va_up_ne _ _ (by decide), ef_53, va_up_ne _ _ (by decide)]; exact c_8
    have c_9 : f_54 9 = aq (ca 3) 20 (fun i => some (ad (10 + 4 * i))) := by rw [ef_54, va_up_ne _ _ (by decide), ef_53, va_up_ne _ _ (by decide)]; exact c_9
    have c_90 : f_54 90 = .inr (4, [.ref (ad 91), .ref (ad 94), .ref (ad 96), .ref (ad 97), .ref (ad 98), .ref (ad 99), .int (nI (n 5))]) := by rw [ef_54, va_up_ne _ _ (by decide), ef_53, va_up_ne _ _ (by decide)]; exact c_90
    have c_91 : f_54 91 = .inr (2, [.ref (ad 92), .ref (ad 93)]) := by rw [ef_54, va_up_ne _ _ (by decide), ef_53, va_up_ne _ _ (by decide)]; exact c_91
    have c_92 : f_54 92 = ai (ca 0) 8 (z 2) := by rw [ef_54, va_up_ne _ _ (by decide), ef_53, va_up_ne _ _ (by decide)]; exact c_92
    have c_93 : f_54 93 = ai (ca 0) 64 (z 3) := by rw [ef_54, va_up_ne _ _ (by decide), ef_53, va_up_ne _ _ (by decide)]; exact c_93
    have c_94 : f_54 94 = .inr (3, [.ref (ad 95), .int (nI zn)]) := by rw [ef_54, va_up_ne _ _ (by decide), ef_53, va_up_ne _ _ (by decide)]; exact c_94
    have c_95 : f_54 95 = ai (ca 0) 200 (z 4) := by rw [ef_54, va_up_ne _ _ (by decide), ef_53, va_up_ne _ _ (by decide)]; exact c_95
    have c_96 : f_54 96 = ai (ca 0) 200 (g 4) := by rw [ef_54, va_up_ne _ _ (by decide), ef_53, va_up_ne _ _ (by decide)]; exact c_96
    have c_97 : f_54 97 = ai (ca 0) 200 (g 5) := by rw [ef_54, va_up_ne _ _ (by decide), ef_53, va_up_ne _ _ (by decide)]; exact c_97
    have c_98 : f_54 98 = ai (ca 0) 200 (g 6) := by rw [ef_54, va_up_ne _ _ (by decide), ef_53, va_up_ne _ _ (by decide)]; exact c_98
    have c_99 : f_54 99 = aq (ca 4) 200 (fun i => some (ad (100 + i))) := by rw [ef_54, va_up_ne _ _ (by decide), ef_53, va_up_ne _ _ (by decide)]; exact c_99
    have c_300 : f_54 300 = ai (ca 0) 20 (g 2) := by rw [ef_54, va_up_ne _ _ (by decide), ef_53, va_up_ne _ _ (by decide)]; exact c_300
    have c_301 : f_54 301 = ai (ca 2) 20 (g 3) := by rw [ef_54, va_up_ne _ _ (by decide), ef_53, va_up_ne _ _ (by decide)]; exact c_301
    have qn_0 : (va_up n 3 0) 0 = n 0 := by rw [va_up_ne _ _ (by decide)]
    have qn_1 : (va_up n 3 0) 1 = n 1 := by rw [va_up_ne _ _ (by decide)]
    have qn_2 : (va_up n 3 0) 2 = n 2 := by rw [va_up_ne _ _ (by decide)]
    have qn_3 : (va_up n 3 0) 3 = 0 := by rw [va_up_self]
    have qn_4 : (va_up n 3 0) 4 = n 4 := by rw [va_up_ne _ _ (by decide)]
    have qn_5 : (va_up n 3 0) 5 = n 5 := by rw [va_up_ne _ _ (by decide)]
    have qg_0 : (va_up g 13 (upd (g 13) 0 (nI j))) 0 = g 0 := by rw [va_up_ne _ _ (by decide)]
    have qg_1 : (va_up g 13 (upd (g 13) 0 (nI j))) 1 = g 1 := by rw [va_up_ne _ _ (by decide)]
    have qg_2 : (va_up g 13 (upd (g 13) 0 (nI j))) 2 = g 2 := by rw [va_up_ne _ _ (by decide)]
    have qg_3 : (va_up g 13 (upd (g 13) 0 (nI j))) 3 = g 3 := by rw [va_up_ne _ _ (by decide)]
    have qg_4 : (va_up g 13 (upd (g 13) 0 (nI j))) 4 = g 4 := by rw [va_up_ne _ _ (by decide)]
    have qg_5 : (va_up g 13 (upd (g 13) 0 (nI j))) 5 = g 5 := by rw [va_up_ne _ _ (by decide)]
    have qg_6 : (va_up g 13 (upd (g 13) 0 (nI j))) 6 = g 6 := by rw [va_up_ne _ _ (by decide)]
    have qg_7 : (va_up g 13 (upd (g 13) 0 (nI j))) 7 = g 7 := by rw [va_up_ne _ _ (by decide)]
    have qg_8 : (va_up g 13 (upd (g 13) 0 (nI j))) 8 = g 8 := by rw [va_up_ne _ _ (by decide)]
    have qg_9 : (va_up g 13 (upd (g 13) 0 (nI j))) 9 = g 9 := by rw [va_up_ne _ _ (by decide)]
    have qg_10 : (va_up g 13 (upd (g 13) 0 (nI j))) 10 = g 10 := by rw [va_up_ne _ _ (by decide)]
    have qg_11 : (va_up g 13 (upd (g 13) 0 (nI j))) 11 = g 11 := by rw [va_up_ne _ _ (by decide)]
    have qg_12 : (va_up g 13 (upd (g 13) 0 (nI j))) 12 = g 12 := by rw [va_up_ne _ _ (by decide)]
    have qg_13 : (va_up g 13 (upd (g 13) 0 (nI j))) 13 = upd (g 13) 0 (nI j) := by rw [va_up_self]
    have hRk : RepX ca ad (va_up n 3 0) (va_up g 13 (upd (g 13) 0 (nI j))) z zn tb f_54 := ⟨(by rw [qn_0, qn_1, qn_2, qn_3, qg_13, pk_us]; exact c_0),
          c_1,
          c_2,
          c_3,
          c_4,
          c_5,
          (by rw [qn_4]; exact c_6),
          (by rw [qg_0]; exact c_7),
          (by rw [qg_1]; exact c_8),
          c_9,
          (by rw [qn_5]; exact c_90),
          c_91,
          c_92,
          c_93,
          c_94,
          c_95,
          (by rw [qg_4]; exact c_96),
          (by rw [qg_5]; exact c_97),
          (by rw [qg_6]; exact c_98),
          c_99,
          (by rw [qg_2]; exact c_300),
          (by rw [qg_3]; exact c_301),
          (fun i9 hi9 => by rw [qg_7, qg_8, qg_9, qg_10, qg_11, qg_12]; rw [ef_54, va_up_ne _ _ (by omega), ef_53, va_up_ne _ _ (by omega)]; exact F_kf i9 hi9),
          (fun i9 hi9 => by rw [va_up_ne _ _ (by omega)]; rw [ef_54, va_up_ne _ _ (by omega), ef_53, va_up_ne _ _ (by omega)]; exact F_oc i9 hi9),
          (fun i9 hi9 => by rw [va_up_ne _ _ (by omega)]; rw [ef_54, va_up_ne _ _ (by omega), ef_53, va_up_ne _ _ (by omega)]; exact F_va i9 hi9),
          (fun i9 hi9 => by rw [va_up_ne _ _ (by omega)]; rw [ef_54, va_up_ne _ _ (by omega), ef_53, va_up_ne _ _ (by omega)]; exact F_lw i9 hi9),
          (fun i9 hi9 => by rw [va_up_ne _ _ (by omega)]; rw [ef_54, va_up_ne _ _ (by omega), ef_53, va_up_ne _ _ (by omega)]; exact F_M i9 hi9), hzn, hT⟩
    have hfr : ∀ y, 302 ≤ y → f_54 y = f y := (fun y hy => by rw [ef_54, va_up_ne _ _ (by omega), ef_53, va_up_ne _ _ (by omega)])
    have hRk : RepX ca ad ((dueS n g (nI j) 0).1) ((dueS n g (nI j) 0).2) z zn tb f_54 := by exact hRk
    exact P_33 ((n 0 + 1)) 0 _ _ _ _ _ _ (by omega) (by omega) hRk hfr hw (lv_sub hl [1, 2, 0] rfl)
  · exact absurd (Int32.not_le.mp hc_15) ho
