abbrev rmX3_has : Room := { frames := 0, cells := 0, slots := 0, locals := 0 }

set_option maxHeartbeats 4000000 in
set_option maxRecDepth 100000 in
theorem k_X3_has_in (l : Launch) (D : va_G) (ca : Nat → ClassId) (N : Nat) (ad : Nat → Nat) (B tR tK : Nat) (f : Nat → va_E) (dd : xD N ad B) (rc : Nat) (i : Nat) (c_90 : f 90 = .inr (4, [.ref (ad 91), .ref (ad 94), .ref (ad 96), .ref (ad 97), .ref (ad 98), .ref (ad 99), .int (nI rc)]))  (hN : 302 ≤ N) (hi : i < rc) (hrc : rc ≤ 200) : xMi l yX3_has wsX3_has rmX3_has [.ref (ad 90), .int (nI i)] D ca N ad B tR tK f (fun r u => nI 1 = r ∧ f = u) := by
  refine x_open (cc := cX3_has) (maxL := 2) (ret := (some .boolean)) (by decide) rfl (Nat.le_of_ble_eq_true rfl) ?_
  intro p e s m below meth c ls hx hb hml hown hts hr hlocks hnm hB hK hE hw hl
  have hown : s.vm.findClass RX3 = some m.cls := hown
  have hl : lv_has ls 2 [(0, .ref (ad 90)), (1, .int (nI i))] := hl
  have hin_4 : ∀ w ∈ u_ws RX3 TX3 7, w ∈ wsX3_has := by decide +kernel
  have hf_40 := hts (.fieldLink RX3 40 "FixityRows$RowChain" "count" "I") (by decide +kernel)
  have b_90 := c_90
  refine lv_iload_n hx hb dX3_has_0 rfl (lv_at hl 1 rfl) ?_
  refine n_iflt (tgt := 16) hx hb dX3_has_1 (by decide) (by omega) ?_
  refine lv_iload_n hx hb dX3_has_4 rfl (lv_at hl 1 rfl) ?_
  refine lv_aload_n hx hb dX3_has_5 rfl (lv_at hl 0 rfl) ?_
  refine x_get (ci := 4) (C := RX3) (T := TX3) (n := 7) (ref := RX3) hx hb hts hin_4 hown hK hw 90 (by omega) c_90 rfl 6 (by decide) hf_40 (fun _ h => h) rfl dX3_has_6 ?_
  refine n_icge (tgt := 16) hx hb dX3_has_9 (by decide) (by omega) (by omega) (fun c_9 => ?_) (fun c_9 => ?_)
  · omega
  · refine lv_iconst (v := nI 1) hx hb dX3_has_12 (by decide) ?_
    refine lv_goto (tgt := 17) hx hb dX3_has_13 (by decide) ?_
    exact x_zret hx hb hr hlocks hw (by first | exact Or.inl rfl | exact Or.inr rfl) ⟨rfl, rfl⟩ dX3_has_17

set_option maxHeartbeats 4000000 in
set_option maxRecDepth 100000 in
theorem k_X3_has_out (l : Launch) (D : va_G) (ca : Nat → ClassId) (N : Nat) (ad : Nat → Nat) (B tR tK : Nat) (f : Nat → va_E) (dd : xD N ad B) (rc : Nat) (x : Int32) (c_90 : f 90 = .inr (4, [.ref (ad 91), .ref (ad 94), .ref (ad 96), .ref (ad 97), .ref (ad 98), .ref (ad 99), .int (nI rc)]))  (hN : 302 ≤ N) (ho : x < 0 ∨ nI rc ≤ x) : xMi l yX3_has wsX3_has rmX3_has [.ref (ad 90), .int x] D ca N ad B tR tK f (fun r u => nI 0 = r ∧ f = u) := by
  refine x_open (cc := cX3_has) (maxL := 2) (ret := (some .boolean)) (by decide) rfl (Nat.le_of_ble_eq_true rfl) ?_
  intro p e s m below meth c ls hx hb hml hown hts hr hlocks hnm hB hK hE hw hl
  have hown : s.vm.findClass RX3 = some m.cls := hown
  have hl : lv_has ls 2 [(0, .ref (ad 90)), (1, .int x)] := hl
  have hin_4 : ∀ w ∈ u_ws RX3 TX3 7, w ∈ wsX3_has := by decide +kernel
  have hf_40 := hts (.fieldLink RX3 40 "FixityRows$RowChain" "count" "I") (by decide +kernel)
  have b_90 := c_90
  refine lv_iload_n hx hb dX3_has_0 rfl (lv_at hl 1 rfl) ?_
  refine lv_if_lt (tgt := 16) hx hb dX3_has_1 (by decide) (fun c_1 => ?_) (fun c_1 => ?_)
  · refine lv_iconst (v := nI 0) hx hb dX3_has_16 (by decide) ?_
    exact x_zret hx hb hr hlocks hw (by first | exact Or.inl rfl | exact Or.inr rfl) ⟨rfl, rfl⟩ dX3_has_17
  · refine lv_iload_n hx hb dX3_has_4 rfl (lv_at hl 1 rfl) ?_
    refine lv_aload_n hx hb dX3_has_5 rfl (lv_at hl 0 rfl) ?_
    refine x_get (ci := 4) (C := RX3) (T := TX3) (n := 7) (ref := RX3) hx hb hts hin_4 hown hK hw 90 (by omega) c_90 rfl 6 (by decide) hf_40 (fun _ h => h) rfl dX3_has_6 ?_
    refine lv_icmp_ge (tgt := 16) hx hb dX3_has_9 (by decide) (fun c_9 => ?_) (fun c_9 => ?_)
    · refine lv_iconst (v := nI 0) hx hb dX3_has_16 (by decide) ?_
      exact x_zret hx hb hr hlocks hw (by first | exact Or.inl rfl | exact Or.inr rfl) ⟨rfl, rfl⟩ dX3_has_17
    · exact absurd ho (fun z => z.elim c_1 c_9)

abbrev rmX3_kindOf : Room := { frames := 1, cells := 0, slots := 0, locals := 21 }

set_option maxHeartbeats 4000000 in
set_option maxRecDepth 100000 in
theorem k_X3_kindOf_in (l : Launch) (D : va_G) (ca : Nat → ClassId) (N : Nat) (ad : Nat → Nat) (B tR tK : Nat) (f : Nat → va_E) (dd : xD N ad B) (rc : Nat) (i : Nat) (kn : Nat → Int32) (c_90 : f 90 = .inr (4, [.ref (ad 91), .ref (ad 94), .ref (ad 96), .ref (ad 97), .ref (ad 98), .ref (ad 99), .int (nI rc)])) (c_96 : f 96 = ai (ca 0) 200 kn)  (hN : 302 ≤ N) (hi : i < rc) (hrc : rc ≤ 200) : xMi l yX3_kindOf wsX3_kindOf rmX3_kindOf [.ref (ad 90), .int (nI i)] D ca N ad B tR tK f (fun r u => kn i = r ∧ f = u) := by
  refine x_open (cc := cX3_kindOf) (maxL := 2) (ret := (some .int)) (by decide) rfl (Nat.le_of_ble_eq_true rfl) ?_
  intro p e s m below meth c ls hx hb hml hown hts hr hlocks hnm hB hK hE hw hl
  have hown : s.vm.findClass RX3 = some m.cls := hown
  have hl : lv_has ls 2 [(0, .ref (ad 90)), (1, .int (nI i))] := hl
  have hin_4 : ∀ w ∈ u_ws RX3 TX3 7, w ∈ wsX3_kindOf := by decide +kernel
  have hf_25 := hts (.fieldLink RX3 25 "FixityRows$RowChain" "kinds" "[I") (by decide +kernel)
  have b_90 := c_90
  have b_96 := c_96
  refine lv_aload_n hx hb dX3_kindOf_0 rfl (lv_at hl 0 rfl) ?_
  refine lv_iload_n hx hb dX3_kindOf_1 rfl (lv_at hl 1 rfl) ?_
  refine x_Vi (q := 90) (As := [.int (nI i)]) (rest := []) ⟨hx, hb, hml, hown, hts⟩ (k_X3_has_in l D ca N ad B tR tK f dd rc i c_90  (by omega) (by omega) (by omega)) (cwV 1 hts gX3_kindOf_X3_has rfl rfl rfl (by decide +kernel) ⟨Nat.le_of_ble_eq_true rfl, Nat.le_of_ble_eq_true rfl⟩) hK hE hB hw (by omega) c_90 rfl rfl rfl rfl hl.1 (Nat.le_of_ble_eq_true rfl) ⟨Nat.zero_le _, Nat.zero_le _⟩ dX3_kindOf_2 (fun r_2 f_1 H locs hp hw => ?_)
  obtain ⟨er, eu⟩ := hp
  rw [← er]
  rw [← eu] at hw
  refine lv_if_eq (tgt := 17) hx hb dX3_kindOf_5 (by decide) (fun h => absurd h (by decide)) (fun _ => ?_)
  refine lv_aload_n hx hb dX3_kindOf_8 rfl (lv_at hl 0 rfl) ?_
  refine x_get (ci := 4) (C := RX3) (T := TX3) (n := 7) (ref := RX3) hx hb hts hin_4 hown hK hw 90 (by omega) c_90 rfl 2 (by decide) hf_25 (fun _ h => h) rfl dX3_kindOf_9 ?_
  refine lv_iload_n hx hb dX3_kindOf_12 rfl (lv_at hl 1 rfl) ?_
  refine x_iald (j := i) hx hb hK hw 96 0 (by omega) c_96 rfl rfl (by omega) (by decide) dX3_kindOf_13 ?_
  refine lv_goto (tgt := 18) hx hb dX3_kindOf_14 (by decide) ?_
  exact x_iret hx hb hr hlocks hw ⟨rfl, rfl⟩ dX3_kindOf_18

set_option maxHeartbeats 4000000 in
set_option maxRecDepth 100000 in
theorem k_X3_kindOf_out (l : Launch) (D : va_G) (ca : Nat → ClassId) (N : Nat) (ad : Nat → Nat) (B tR tK : Nat) (f : Nat → va_E) (dd : xD N ad B) (rc : Nat) (x : Int32) (c_90 : f 90 = .inr (4, [.ref (ad 91), .ref (ad 94), .ref (ad 96), .ref (ad 97), .ref (ad 98), .ref (ad 99), .int (nI rc)]))  (hN : 302 ≤ N) (ho : x < 0 ∨ nI rc ≤ x) : xMi l yX3_kindOf wsX3_kindOf rmX3_kindOf [.ref (ad 90), .int x] D ca N ad B tR tK f (fun r u => (-1) = r ∧ f = u) := by
  refine x_open (cc := cX3_kindOf) (maxL := 2) (ret := (some .int)) (by decide) rfl (Nat.le_of_ble_eq_true rfl) ?_
  intro p e s m below meth c ls hx hb hml hown hts hr hlocks hnm hB hK hE hw hl
  have hown : s.vm.findClass RX3 = some m.cls := hown
  have hl : lv_has ls 2 [(0, .ref (ad 90)), (1, .int x)] := hl
  have b_90 := c_90
  refine lv_aload_n hx hb dX3_kindOf_0 rfl (lv_at hl 0 rfl) ?_
  refine lv_iload_n hx hb dX3_kindOf_1 rfl (lv_at hl 1 rfl) ?_
  refine x_Vi (q := 90) (As := [.int x]) (rest := []) ⟨hx, hb, hml, hown, hts⟩ (k_X3_has_out l D ca N ad B tR tK f dd rc x c_90  (by omega) ho) (cwV 1 hts gX3_kindOf_X3_has rfl rfl rfl (by decide +kernel) ⟨Nat.le_of_ble_eq_true rfl, Nat.le_of_ble_eq_true rfl⟩) hK hE hB hw (by omega) c_90 rfl rfl rfl rfl hl.1 (Nat.le_of_ble_eq_true rfl) ⟨Nat.zero_le _, Nat.zero_le _⟩ dX3_kindOf_2 (fun r_2 f_1 H locs hp hw => ?_)
  obtain ⟨er, eu⟩ := hp
  rw [← er]
  rw [← eu] at hw
  refine lv_if_eq (tgt := 17) hx hb dX3_kindOf_5 (by decide) (fun _ => ?_) (fun h => False.elim (h (by decide)))
  refine lv_iconst (v := (-1)) hx hb dX3_kindOf_17 (by decide) ?_
  exact x_iret hx hb hr hlocks hw ⟨rfl, rfl⟩ dX3_kindOf_18

abbrev rmX3_fileOf : Room := { frames := 1, cells := 0, slots := 0, locals := 21 }

set_option maxHeartbeats 4000000 in
set_option maxRecDepth 100000 in
theorem k_X3_fileOf_in (l : Launch) (D : va_G) (ca : Nat → ClassId) (N : Nat) (ad : Nat → Nat) (B tR tK : Nat) (f : Nat → va_E) (dd : xD N ad B) (rc : Nat) (i : Nat) (fn : Nat → Int32) (c_90 : f 90 = .inr (4, [.ref (ad 91), .ref (ad 94), .ref (ad 96), .ref (ad 97), .ref (ad 98), .ref (ad 99), .int (nI rc)])) (c_97 : f 97 = ai (ca 0) 200 fn)  (hN : 302 ≤ N) (hi : i < rc) (hrc : rc ≤ 200) : xMi l yX3_fileOf wsX3_fileOf rmX3_fileOf [.ref (ad 90), .int (nI i)] D ca N ad B tR tK f (fun r u => fn i = r ∧ f = u) := by
  refine x_open (cc := cX3_fileOf) (maxL := 2) (ret := (some .int)) (by decide) rfl (Nat.le_of_ble_eq_true rfl) ?_
  intro p e s m below meth c ls hx hb hml hown hts hr hlocks hnm hB hK hE hw hl
  have hown : s.vm.findClass RX3 = some m.cls := hown
  have hl : lv_has ls 2 [(0, .ref (ad 90)), (1, .int (nI i))] := hl
  have hin_4 : ∀ w ∈ u_ws RX3 TX3 7, w ∈ wsX3_fileOf := by decide +kernel
  have hf_29 := hts (.fieldLink RX3 29 "FixityRows$RowChain" "fileNumbers" "[I") (by decide +kernel)
  have b_90 := c_90
  have b_97 := c_97
  refine lv_aload_n hx hb dX3_fileOf_0 rfl (lv_at hl 0 rfl) ?_
  refine lv_iload_n hx hb dX3_fileOf_1 rfl (lv_at hl 1 rfl) ?_
  refine x_Vi (q := 90) (As := [.int (nI i)]) (rest := []) ⟨hx, hb, hml, hown, hts⟩ (k_X3_has_in l D ca N ad B tR tK f dd rc i c_90  (by omega) (by omega) (by omega)) (cwV 1 hts gX3_fileOf_X3_has rfl rfl rfl (by decide +kernel) ⟨Nat.le_of_ble_eq_true rfl, Nat.le_of_ble_eq_true rfl⟩) hK hE hB hw (by omega) c_90 rfl rfl rfl rfl hl.1 (Nat.le_of_ble_eq_true rfl) ⟨Nat.zero_le _, Nat.zero_le _⟩ dX3_fileOf_2 (fun r_2 f_1 H locs hp hw => ?_)
  obtain ⟨er, eu⟩ := hp
  rw [← er]
  rw [← eu] at hw
  refine lv_if_eq (tgt := 17) hx hb dX3_fileOf_5 (by decide) (fun h => absurd h (by decide)) (fun _ => ?_)
  refine lv_aload_n hx hb dX3_fileOf_8 rfl (lv_at hl 0 rfl) ?_
  refine x_get (ci := 4) (C := RX3) (T := TX3) (n := 7) (ref := RX3) hx hb hts hin_4 hown hK hw 90 (by omega) c_90 rfl 3 (by decide) hf_29 (fun _ h => h) rfl dX3_fileOf_9 ?_
  refine lv_iload_n hx hb dX3_fileOf_12 rfl (lv_at hl 1 rfl) ?_
  refine x_iald (j := i) hx hb hK hw 97 0 (by omega) c_97 rfl rfl (by omega) (by decide) dX3_fileOf_13 ?_
  refine lv_goto (tgt := 18) hx hb dX3_fileOf_14 (by decide) ?_
  exact x_iret hx hb hr hlocks hw ⟨rfl, rfl⟩ dX3_fileOf_18

set_option maxHeartbeats 4000000 in
set_option maxRecDepth 100000 in
theorem k_X3_fileOf_out (l : Launch) (D : va_G) (ca : Nat → ClassId) (N : Nat) (ad : Nat → Nat) (B tR tK : Nat) (f : Nat → va_E) (dd : xD N ad B) (rc : Nat) (x : Int32) (c_90 : f 90 = .inr (4, [.ref (ad 91), .ref (ad 94), .ref (ad 96), .ref (ad 97), .ref (ad 98), .ref (ad 99), .int (nI rc)]))  (hN : 302 ≤ N) (ho : x < 0 ∨ nI rc ≤ x) : xMi l yX3_fileOf wsX3_fileOf rmX3_fileOf [.ref (ad 90), .int x] D ca N ad B tR tK f (fun r u => (-1) = r ∧ f = u) := by
  refine x_open (cc := cX3_fileOf) (maxL := 2) (ret := (some .int)) (by decide) rfl (Nat.le_of_ble_eq_true rfl) ?_
  intro p e s m below meth c ls hx hb hml hown hts hr hlocks hnm hB hK hE hw hl
  have hown : s.vm.findClass RX3 = some m.cls := hown
  have hl : lv_has ls 2 [(0, .ref (ad 90)), (1, .int x)] := hl
  have b_90 := c_90
  refine lv_aload_n hx hb dX3_fileOf_0 rfl (lv_at hl 0 rfl) ?_
  refine lv_iload_n hx hb dX3_fileOf_1 rfl (lv_at hl 1 rfl) ?_
  refine x_Vi (q := 90) (As := [.int x]) (rest := []) ⟨hx, hb, hml, hown, hts⟩ (k_X3_has_out l D ca N ad B tR tK f dd rc x c_90  (by omega) ho) (cwV 1 hts gX3_fileOf_X3_has rfl rfl rfl (by decide +kernel) ⟨Nat.le_of_ble_eq_true rfl, Nat.le_of_ble_eq_true rfl⟩) hK hE hB hw (by omega) c_90 rfl rfl rfl rfl hl.1 (Nat.le_of_ble_eq_true rfl) ⟨Nat.zero_le _, Nat.zero_le _⟩ dX3_fileOf_2 (fun r_2 f_1 H locs hp hw => ?_)
  obtain ⟨er, eu⟩ := hp
  rw [← er]
  rw [← eu] at hw
  refine lv_if_eq (tgt := 17) hx hb dX3_fileOf_5 (by decide) (fun _ => ?_) (fun h => False.elim (h (by decide)))
  refine lv_iconst (v := (-1)) hx hb dX3_fileOf_17 (by decide) ?_
  exact x_iret hx hb hr hlocks hw ⟨rfl, rfl⟩ dX3_fileOf_18

abbrev rmX3_dayOf : Room := { frames := 1, cells := 0, slots := 0, locals := 21 }

set_option maxHeartbeats 4000000 in
set_option maxRecDepth 100000 in
theorem k_X3_dayOf_in (l : Launch) (D : va_G) (ca : Nat → ClassId) (N : Nat) (ad : Nat → Nat) (B tR tK : Nat) (f : Nat → va_E) (dd : xD N ad B) (rc : Nat) (i : Nat) (dn : Nat → Int32) (c_90 : f 90 = .inr (4, [.ref (ad 91), .ref (ad 94), .ref (ad 96), .ref (ad 97), .ref (ad 98), .ref (ad 99), .int (nI rc)])) (c_98 : f 98 = ai (ca 0) 200 dn)  (hN : 302 ≤ N) (hi : i < rc) (hrc : rc ≤ 200) : xMi l yX3_dayOf wsX3_dayOf rmX3_dayOf [.ref (ad 90), .int (nI i)] D ca N ad B tR tK f (fun r u => dn i = r ∧ f = u) := by
  refine x_open (cc := cX3_dayOf) (maxL := 2) (ret := (some .int)) (by decide) rfl (Nat.le_of_ble_eq_true rfl) ?_
  intro p e s m below meth c ls hx hb hml hown hts hr hlocks hnm hB hK hE hw hl
  have hown : s.vm.findClass RX3 = some m.cls := hown
  have hl : lv_has ls 2 [(0, .ref (ad 90)), (1, .int (nI i))] := hl
  have hin_4 : ∀ w ∈ u_ws RX3 TX3 7, w ∈ wsX3_dayOf := by decide +kernel
  have hf_32 := hts (.fieldLink RX3 32 "FixityRows$RowChain" "days" "[I") (by decide +kernel)
  have b_90 := c_90
  have b_98 := c_98
  refine lv_aload_n hx hb dX3_dayOf_0 rfl (lv_at hl 0 rfl) ?_
  refine lv_iload_n hx hb dX3_dayOf_1 rfl (lv_at hl 1 rfl) ?_
  refine x_Vi (q := 90) (As := [.int (nI i)]) (rest := []) ⟨hx, hb, hml, hown, hts⟩ (k_X3_has_in l D ca N ad B tR tK f dd rc i c_90  (by omega) (by omega) (by omega)) (cwV 1 hts gX3_dayOf_X3_has rfl rfl rfl (by decide +kernel) ⟨Nat.le_of_ble_eq_true rfl, Nat.le_of_ble_eq_true rfl⟩) hK hE hB hw (by omega) c_90 rfl rfl rfl rfl hl.1 (Nat.le_of_ble_eq_true rfl) ⟨Nat.zero_le _, Nat.zero_le _⟩ dX3_dayOf_2 (fun r_2 f_1 H locs hp hw => ?_)
  obtain ⟨er, eu⟩ := hp
  rw [← er]
  rw [← eu] at hw
  refine lv_if_eq (tgt := 17) hx hb dX3_dayOf_5 (by decide) (fun h => absurd h (by decide)) (fun _ => ?_)
  refine lv_aload_n hx hb dX3_dayOf_8 rfl (lv_at hl 0 rfl) ?_
  refine x_get (ci := 4) (C := RX3) (T := TX3) (n := 7) (ref := RX3) hx hb hts hin_4 hown hK hw 90 (by omega) c_90 rfl 4 (by decide) hf_32 (fun _ h => h) rfl dX3_dayOf_9 ?_
  refine lv_iload_n hx hb dX3_dayOf_12 rfl (lv_at hl 1 rfl) ?_
  refine x_iald (j := i) hx hb hK hw 98 0 (by omega) c_98 rfl rfl (by omega) (by decide) dX3_dayOf_13 ?_
  refine lv_goto (tgt := 18) hx hb dX3_dayOf_14 (by decide) ?_
  exact x_iret hx hb hr hlocks hw ⟨rfl, rfl⟩ dX3_dayOf_18

set_option maxHeartbeats 4000000 in
set_option maxRecDepth 100000 in
theorem k_X3_dayOf_out (l : Launch) (D : va_G) (ca : Nat → ClassId) (N : Nat) (ad : Nat → Nat) (B tR tK : Nat) (f : Nat → va_E) (dd : xD N ad B) (rc : Nat) (x : Int32) (c_90 : f 90 = .inr (4, [.ref (ad 91), .ref (ad 94), .ref (ad 96), .ref (ad 97), .ref (ad 98), .ref (ad 99), .int (nI rc)]))  (hN : 302 ≤ N) (ho : x < 0 ∨ nI rc ≤ x) : xMi l yX3_dayOf wsX3_dayOf rmX3_dayOf [.ref (ad 90), .int x] D ca N ad B tR tK f (fun r u => (-1) = r ∧ f = u) := by
  refine x_open (cc := cX3_dayOf) (maxL := 2) (ret := (some .int)) (by decide) rfl (Nat.le_of_ble_eq_true rfl) ?_
  intro p e s m below meth c ls hx hb hml hown hts hr hlocks hnm hB hK hE hw hl
  have hown : s.vm.findClass RX3 = some m.cls := hown
  have hl : lv_has ls 2 [(0, .ref (ad 90)), (1, .int x)] := hl
  have b_90 := c_90
  refine lv_aload_n hx hb dX3_dayOf_0 rfl (lv_at hl 0 rfl) ?_
  refine lv_iload_n hx hb dX3_dayOf_1 rfl (lv_at hl 1 rfl) ?_
  refine x_Vi (q := 90) (As := [.int x]) (rest := []) ⟨hx, hb, hml, hown, hts⟩ (k_X3_has_out l D ca N ad B tR tK f dd rc x c_90  (by omega) ho) (cwV 1 hts gX3_dayOf_X3_has rfl rfl rfl (by decide +kernel) ⟨Nat.le_of_ble_eq_true rfl, Nat.le_of_ble_eq_true rfl⟩) hK hE hB hw (by omega) c_90 rfl rfl rfl rfl hl.1 (Nat.le_of_ble_eq_true rfl) ⟨Nat.zero_le _, Nat.zero_le _⟩ dX3_dayOf_2 (fun r_2 f_1 H locs hp hw => ?_)
  obtain ⟨er, eu⟩ := hp
  rw [← er]
  rw [← eu] at hw
  refine lv_if_eq (tgt := 17) hx hb dX3_dayOf_5 (by decide) (fun _ => ?_) (fun h => False.elim (h (by decide)))
  refine lv_iconst (v := (-1)) hx hb dX3_dayOf_17 (by decide) ?_
  exact x_iret hx hb hr hlocks hw ⟨rfl, rfl⟩ dX3_dayOf_18

abbrev rmX3_firstWordOf : Room := { frames := 1, cells := 0, slots := 0, locals := 21 }

set_option maxHeartbeats 4000000 in
set_option maxRecDepth 100000 in
theorem k_X3_firstWordOf_in (l : Launch) (D : va_G) (ca : Nat → ClassId) (N : Nat) (ad : Nat → Nat) (B tR tK : Nat) (f : Nat → va_E) (dd : xD N ad B) (rc : Nat) (i : Nat) (M : Nat → Nat → Int32) (c_90 : f 90 = .inr (4, [.ref (ad 91), .ref (ad 94), .ref (ad 96), .ref (ad 97), .ref (ad 98), .ref (ad 99), .int (nI rc)])) (c_99 : f 99 = aq (ca 4) 200 (fun i => some (ad (100 + i)))) (F_M : ∀ i, i < 200 → f (100 + i) = ai (ca 0) 8 (M i)) (hN : 302 ≤ N) (hi : i < rc) (hrc : rc ≤ 200) : xMi l yX3_firstWordOf wsX3_firstWordOf rmX3_firstWordOf [.ref (ad 90), .int (nI i)] D ca N ad B tR tK f (fun r u => M i 0 = r ∧ f = u) := by
  refine x_open (cc := cX3_firstWordOf) (maxL := 2) (ret := (some .int)) (by decide) rfl (Nat.le_of_ble_eq_true rfl) ?_
  intro p e s m below meth c ls hx hb hml hown hts hr hlocks hnm hB hK hE hw hl
  have hown : s.vm.findClass RX3 = some m.cls := hown
  have hl : lv_has ls 2 [(0, .ref (ad 90)), (1, .int (nI i))] := hl
  have hin_4 : ∀ w ∈ u_ws RX3 TX3 7, w ∈ wsX3_firstWordOf := by decide +kernel
  have hf_37 := hts (.fieldLink RX3 37 "FixityRows$RowChain" "digests" "[[I") (by decide +kernel)
  have b_90 := c_90
  have b_99 := c_99
  refine lv_aload_n hx hb dX3_firstWordOf_0 rfl (lv_at hl 0 rfl) ?_
  refine lv_iload_n hx hb dX3_firstWordOf_1 rfl (lv_at hl 1 rfl) ?_
  refine x_Vi (q := 90) (As := [.int (nI i)]) (rest := []) ⟨hx, hb, hml, hown, hts⟩ (k_X3_has_in l D ca N ad B tR tK f dd rc i c_90  (by omega) (by omega) (by omega)) (cwV 1 hts gX3_firstWordOf_X3_has rfl rfl rfl (by decide +kernel) ⟨Nat.le_of_ble_eq_true rfl, Nat.le_of_ble_eq_true rfl⟩) hK hE hB hw (by omega) c_90 rfl rfl rfl rfl hl.1 (Nat.le_of_ble_eq_true rfl) ⟨Nat.zero_le _, Nat.zero_le _⟩ dX3_firstWordOf_2 (fun r_2 f_1 H locs hp hw => ?_)
  obtain ⟨er, eu⟩ := hp
  rw [← er]
  rw [← eu] at hw
  refine lv_if_eq (tgt := 19) hx hb dX3_firstWordOf_5 (by decide) (fun h => absurd h (by decide)) (fun _ => ?_)
  refine lv_aload_n hx hb dX3_firstWordOf_8 rfl (lv_at hl 0 rfl) ?_
  refine x_get (ci := 4) (C := RX3) (T := TX3) (n := 7) (ref := RX3) hx hb hts hin_4 hown hK hw 90 (by omega) c_90 rfl 5 (by decide) hf_37 (fun _ h => h) rfl dX3_firstWordOf_9 ?_
  refine lv_iload_n hx hb dX3_firstWordOf_12 rfl (lv_at hl 1 rfl) ?_
  refine x_aaldA (j := i) (a := ad (100 + i)) hx hb hK hw 99 4 (by omega) c_99 rfl rfl (by omega) (by decide) rfl dX3_firstWordOf_13 ?_
  refine lv_iconst (v := nI 0) hx hb dX3_firstWordOf_14 (by decide) ?_
  have c_100_i : f (100 + i) = ai (ca 0) 8 (M i) := (F_M i (by omega))
  refine x_iald (j := 0) hx hb hK hw (100 + i) 0 (by omega) c_100_i rfl rfl (by omega) (by decide) dX3_firstWordOf_15 ?_
  refine lv_goto (tgt := 20) hx hb dX3_firstWordOf_16 (by decide) ?_
  exact x_iret hx hb hr hlocks hw ⟨rfl, rfl⟩ dX3_firstWordOf_20

set_option maxHeartbeats 4000000 in
set_option maxRecDepth 100000 in
theorem k_X3_firstWordOf_out (l : Launch) (D : va_G) (ca : Nat → ClassId) (N : Nat) (ad : Nat → Nat) (B tR tK : Nat) (f : Nat → va_E) (dd : xD N ad B) (rc : Nat) (x : Int32) (c_90 : f 90 = .inr (4, [.ref (ad 91), .ref (ad 94), .ref (ad 96), .ref (ad 97), .ref (ad 98), .ref (ad 99), .int (nI rc)]))  (hN : 302 ≤ N) (ho : x < 0 ∨ nI rc ≤ x) : xMi l yX3_firstWordOf wsX3_firstWordOf rmX3_firstWordOf [.ref (ad 90), .int x] D ca N ad B tR tK f (fun r u => (-1) = r ∧ f = u) := by
  refine x_open (cc := cX3_firstWordOf) (maxL := 2) (ret := (some .int)) (by decide) rfl (Nat.le_of_ble_eq_true rfl) ?_
  intro p e s m below meth c ls hx hb hml hown hts hr hlocks hnm hB hK hE hw hl
  have hown : s.vm.findClass RX3 = some m.cls := hown
  have hl : lv_has ls 2 [(0, .ref (ad 90)), (1, .int x)] := hl
  have b_90 := c_90
  refine lv_aload_n hx hb dX3_firstWordOf_0 rfl (lv_at hl 0 rfl) ?_
  refine lv_iload_n hx hb dX3_firstWordOf_1 rfl (lv_at hl 1 rfl) ?_
  refine x_Vi (q := 90) (As := [.int x]) (rest := []) ⟨hx, hb, hml, hown, hts⟩ (k_X3_has_out l D ca N ad B tR tK f dd rc x c_90  (by omega) ho) (cwV 1 hts gX3_firstWordOf_X3_has rfl rfl rfl (by decide +kernel) ⟨Nat.le_of_ble_eq_true rfl, Nat.le_of_ble_eq_true rfl⟩) hK hE hB hw (by omega) c_90 rfl rfl rfl rfl hl.1 (Nat.le_of_ble_eq_true rfl) ⟨Nat.zero_le _, Nat.zero_le _⟩ dX3_firstWordOf_2 (fun r_2 f_1 H locs hp hw => ?_)
  obtain ⟨er, eu⟩ := hp
  rw [← er]
  rw [← eu] at hw
  refine lv_if_eq (tgt := 19) hx hb dX3_firstWordOf_5 (by decide) (fun _ => ?_) (fun h => False.elim (h (by decide)))
  refine lv_iconst (v := (-1)) hx hb dX3_firstWordOf_19 (by decide) ?_
  exact x_iret hx hb hr hlocks hw ⟨rfl, rfl⟩ dX3_firstWordOf_20

abbrev rmX3_changeDay : Room := { frames := 1, cells := 0, slots := 0, locals := 21 }

set_option maxHeartbeats 4000000 in
set_option maxRecDepth 100000 in
theorem k_X3_changeDay_in (l : Launch) (D : va_G) (ca : Nat → ClassId) (N : Nat) (ad : Nat → Nat) (B tR tK : Nat) (f : Nat → va_E) (dd : xD N ad B) (rc : Nat) (i : Nat) (x : Int32) (dn : Nat → Int32) (c_90 : f 90 = .inr (4, [.ref (ad 91), .ref (ad 94), .ref (ad 96), .ref (ad 97), .ref (ad 98), .ref (ad 99), .int (nI rc)])) (c_98 : f 98 = ai (ca 0) 200 dn)  (hN : 302 ≤ N) (hi : i < rc) (hrc : rc ≤ 200) : xMv l yX3_changeDay wsX3_changeDay rmX3_changeDay [.ref (ad 90), .int (nI i), .int x] D ca N ad B tR tK f (fun u => u = va_up f 98 (ai (ca 0) 200 (upd dn i (dn i ^^^ x)))) := by
  refine x_open (cc := cX3_changeDay) (maxL := 3) (ret := none) (by decide) rfl (Nat.le_of_ble_eq_true rfl) ?_
  intro p e s m below meth c ls hx hb hml hown hts hr hlocks hnm hB hK hE hw hl
  have hown : s.vm.findClass RX3 = some m.cls := hown
  have hl : lv_has ls 3 [(0, .ref (ad 90)), (1, .int (nI i)), (2, .int x)] := hl
  have hin_4 : ∀ w ∈ u_ws RX3 TX3 7, w ∈ wsX3_changeDay := by decide +kernel
  have hf_32 := hts (.fieldLink RX3 32 "FixityRows$RowChain" "days" "[I") (by decide +kernel)
  have b_90 := c_90
  have b_98 := c_98
  refine lv_aload_n hx hb dX3_changeDay_0 rfl (lv_at hl 0 rfl) ?_
  refine lv_iload_n hx hb dX3_changeDay_1 rfl (lv_at hl 1 rfl) ?_
  refine x_Vi (q := 90) (As := [.int (nI i)]) (rest := []) ⟨hx, hb, hml, hown, hts⟩ (k_X3_has_in l D ca N ad B tR tK f dd rc i c_90  (by omega) (by omega) (by omega)) (cwV 1 hts gX3_changeDay_X3_has rfl rfl rfl (by decide +kernel) ⟨Nat.le_of_ble_eq_true rfl, Nat.le_of_ble_eq_true rfl⟩) hK hE hB hw (by omega) c_90 rfl rfl rfl rfl hl.1 (Nat.le_of_ble_eq_true rfl) ⟨Nat.zero_le _, Nat.zero_le _⟩ dX3_changeDay_2 (fun r_2 f_1 H locs hp hw => ?_)
  obtain ⟨er, eu⟩ := hp
  rw [← er]
  rw [← eu] at hw
  refine lv_if_eq (tgt := 18) hx hb dX3_changeDay_5 (by decide) (fun h => absurd h (by decide)) (fun _ => ?_)
  refine lv_aload_n hx hb dX3_changeDay_8 rfl (lv_at hl 0 rfl) ?_
  refine x_get (ci := 4) (C := RX3) (T := TX3) (n := 7) (ref := RX3) hx hb hts hin_4 hown hK hw 90 (by omega) c_90 rfl 4 (by decide) hf_32 (fun _ h => h) rfl dX3_changeDay_9 ?_
  refine lv_iload_n hx hb dX3_changeDay_12 rfl (lv_at hl 1 rfl) ?_
  refine lv_dup2_11 hx hb dX3_changeDay_13 rfl rfl ?_
  refine x_iald (j := i) hx hb hK hw 98 0 (by omega) c_98 rfl rfl (by omega) (by decide) dX3_changeDay_14 ?_
  refine lv_iload_n hx hb dX3_changeDay_15 rfl (lv_at hl 2 rfl) ?_
  refine lv_ixor hx hb dX3_changeDay_16 ?_
  refine lv_topi (fun x_3 ex_3 => ?_)
  refine x_iast (j := i) hx hb hK dd hw 98 0 (by omega) c_98 rfl rfl (by omega) (by decide) dX3_changeDay_17 (fun H locs hw => ?_)
  obtain ⟨f_4, ef_4⟩ : ∃ z, z = va_up f 98 (ai (ca 0) 200 (upd dn i x_3)) := ⟨_, rfl⟩
  have hw : xw D vwCl N ad B s.heap f_4 H locs := by rw [ef_4]; exact hw
  have c_98 : f_4 98 = ai (ca 0) 200 (upd dn i x_3) := va_up_of ef_4
  exact x_vret hx hb hr hlocks hw (by simp only [ef_4, ex_3]) dX3_changeDay_18

abbrev rmX3_computeDigestOf : Room := { frames := 3, cells := 0, slots := 0, locals := 76 }

set_option maxHeartbeats 4000000 in
set_option maxRecDepth 100000 in
theorem k_X3_computeDigestOf (l : Launch) (D : va_G) (ca : Nat → ClassId) (N : Nat) (ad : Nat → Nat) (B tR tK : Nat) (f : Nat → va_E) (dd : xD N ad B) (rc : Nat) (ce : Nat → Int32) (cw : Nat → Int32) (sn : Nat) (sv : Nat → Int32) (kn : Nat → Int32) (fn : Nat → Int32) (dn : Nat → Int32) (M : Nat → Nat → Int32) (i : Nat) (c_90 : f 90 = .inr (4, [.ref (ad 91), .ref (ad 94), .ref (ad 96), .ref (ad 97), .ref (ad 98), .ref (ad 99), .int (nI rc)])) (c_91 : f 91 = .inr (2, [.ref (ad 92), .ref (ad 93)])) (c_92 : f 92 = ai (ca 0) 8 ce) (c_93 : f 93 = ai (ca 0) 64 cw) (c_94 : f 94 = .inr (3, [.ref (ad 95), .int (nI sn)])) (c_95 : f 95 = ai (ca 0) 200 sv) (c_96 : f 96 = ai (ca 0) 200 kn) (c_97 : f 97 = ai (ca 0) 200 fn) (c_98 : f 98 = ai (ca 0) 200 dn) (c_99 : f 99 = aq (ca 4) 200 (fun i => some (ad (100 + i)))) (F_M : ∀ i, i < 200 → f (100 + i) = ai (ca 0) 8 (M i)) (hN : 302 ≤ N) (hi : i < rc) (hrc : rc ≤ 200) (hsn : sn ≤ 200) : xMv l yX3_computeDigestOf wsX3_computeDigestOf rmX3_computeDigestOf [.ref (ad 90), .int (nI i)] D ca N ad B tR tK f (fun u => ∃ sv1 : Nat → Int32, ∃ w1 : Nat → Int32, ∃ e1 : Nat → Int32, (∀ j, j < 8 → e1 j = rowD (prevD M i) (kn i) (fn i) (dn i) j) ∧ u = va_up (va_up (va_up (va_up f 95 (ai (ca 0) 200 sv1)) 94 (.inr (3, [.ref (ad 95), .int (nI 44)]))) 93 (ai (ca 0) 64 w1)) 92 (ai (ca 0) 8 e1)) := by
  refine x_open (cc := cX3_computeDigestOf) (maxL := 3) (ret := none) (by decide) rfl (Nat.le_of_ble_eq_true rfl) ?_
  intro p e s m below meth c ls hx hb hml hown hts hr hlocks hnm hB hK hE hw hl
  have hown : s.vm.findClass RX3 = some m.cls := hown
  have hl : lv_has ls 3 [(0, .ref (ad 90)), (1, .int (nI i))] := hl
  have hin_4 : ∀ w ∈ u_ws RX3 TX3 7, w ∈ wsX3_computeDigestOf := by decide +kernel
  have hf_21 := hts (.fieldLink RX3 21 "FixityRows$RowChain" "sealed" "LFixityRows$Octets;") (by decide +kernel)
  have hf_12 := hts (.fieldLink RX3 12 "FixityRows$RowChain" "longDigest" "LFixityRows$LongDigest;") (by decide +kernel)
  have hf_37 := hts (.fieldLink RX3 37 "FixityRows$RowChain" "digests" "[[I") (by decide +kernel)
  have b_90 := c_90
  have b_91 := c_91
  have b_92 := c_92
  have b_93 := c_93
  have b_94 := c_94
  have b_95 := c_95
  have b_96 := c_96
  have b_97 := c_97
  have b_98 := c_98
  have b_99 := c_99
  have P_53 : ∀ (H : Heap) (locs : List Loc) (ls : Array Slot), xw D vwCl N ad B s.heap (va_up (va_up f 95 (ai (ca 0) 200 (swr sv (rowW (prevD M i) (kn i) (fn i) (dn i)) 8))) 94 (.inr (3, [.ref (ad 95), .int (nI (4 * 8))]))) H locs → lv_has ls 3 [(0, .ref (ad 90)), (1, .int (nI i))] → W p l e rmX3_computeDigestOf s m ([.ref (ad 90), .int (nI i)] : List Value).toArray below meth c H locs 0 0 (MQ below (xQv (fun u => ∃ sv1 : Nat → Int32, ∃ w1 : Nat → Int32, ∃ e1 : Nat → Int32, (∀ j, j < 8 → e1 j = rowD (prevD M i) (kn i) (fn i) (dn i) j) ∧ u = va_up (va_up (va_up (va_up f 95 (ai (ca 0) 200 sv1)) 94 (.inr (3, [.ref (ad 95), .int (nI 44)]))) 93 (ai (ca 0) 64 w1)) 92 (ai (ca 0) 8 e1)) D N ad B) ([.ref (ad 90), .int (nI i)] : List Value).toArray s 0 0 (xA B)) (F0 m 53 ls []) := by
    intro H locs ls hw hl
    have c_90 := b_90
    have c_91 := b_91
    have c_92 := b_92
    have c_93 := b_93
    have c_94 := b_94
    have c_95 := b_95
    have c_96 := b_96
    have c_97 := b_97
    have c_98 := b_98
    have c_99 := b_99
    obtain ⟨f_1, ef_1⟩ : ∃ z, z = va_up (va_up f 95 (ai (ca 0) 200 (swr sv (rowW (prevD M i) (kn i) (fn i) (dn i)) 8))) 94 (.inr (3, [.ref (ad 95), .int (nI (4 * 8))])) := ⟨_, rfl⟩
    have hw : xw D vwCl N ad B s.heap f_1 H locs := by rw [ef_1]; exact hw
    have c_95 : f_1 95 = ai (ca 0) 200 (swr sv (rowW (prevD M i) (kn i) (fn i) (dn i)) 8) := by rw [ef_1, va_up_ne _ _ (by decide), va_up_self]
    have c_94 : f_1 94 = .inr (3, [.ref (ad 95), .int (nI (4 * 8))]) := by rw [ef_1, va_up_self]
    refine lv_aload_n hx hb dX3_computeDigestOf_53 rfl (lv_at hl 0 rfl) ?_
    have c_90 : f_1 90 = .inr (4, [.ref (ad 91), .ref (ad 94), .ref (ad 96), .ref (ad 97), .ref (ad 98), .ref (ad 99), .int (nI rc)]) := by rw [ef_1, va_up_ne _ _ (by decide), va_up_ne _ _ (by decide)]; exact c_90
    refine x_get (ci := 4) (C := RX3) (T := TX3) (n := 7) (ref := RX3) hx hb hts hin_4 hown hK hw 90 (by omega) c_90 rfl 1 (by decide) hf_21 (fun _ h => h) rfl dX3_computeDigestOf_54 ?_
    refine lv_aload_n hx hb dX3_computeDigestOf_57 rfl (lv_at hl 0 rfl) ?_
    refine lv_iload_n hx hb dX3_computeDigestOf_58 rfl (lv_at hl 1 rfl) ?_
    have c_96 : f_1 96 = ai (ca 0) 200 kn := by rw [ef_1, va_up_ne _ _ (by decide), va_up_ne _ _ (by decide)]; exact c_96
    refine x_Vi (q := 90) (As := [.int (nI i)]) (rest := [.ref (ad 94)]) ⟨hx, hb, hml, hown, hts⟩ (k_X3_kindOf_in l D ca N ad B tR tK f_1 dd rc i kn c_90 c_96  (by omega) (by omega) (by omega)) (cwV 1 hts gX3_computeDigestOf_X3_kindOf rfl rfl rfl (by decide +kernel) ⟨Nat.le_of_ble_eq_true rfl, Nat.le_of_ble_eq_true rfl⟩) hK hE hB hw (by omega) c_90 rfl rfl rfl rfl hl.1 (Nat.le_of_ble_eq_true rfl) ⟨Nat.zero_le _, Nat.zero_le _⟩ dX3_computeDigestOf_59 (fun r_3 f_2 H locs hp hw => ?_)
    obtain ⟨er, eu⟩ := hp
    rw [← er]
    rw [← eu] at hw
    refine lv_topi (fun x_4 ex_4 => ?_)
    refine x_Vv (q := 94) (As := [.int x_4]) (rest := []) ⟨hx, hb, hml, hown, hts⟩ (k_X2_pushWord l D ca N ad B tR tK f_1 dd 94 95 (4 * 8) x_4 (swr sv (rowW (prevD M i) (kn i) (fn i) (dn i)) 8) (by omega) c_94 (by omega) c_95  (by omega)) (cwV 1 hts gX3_computeDigestOf_X2_pushWord rfl rfl rfl (by decide +kernel) ⟨Nat.le_of_ble_eq_true rfl, Nat.le_of_ble_eq_true rfl⟩) hK hE hB hw (by omega) c_94 rfl rfl rfl rfl hl.1 (Nat.le_of_ble_eq_true rfl) ⟨Nat.zero_le _, Nat.zero_le _⟩ dX3_computeDigestOf_62 (fun f_5 H locs hp hw => ?_)
    have eu := hp
    have ef_5 : f_5 = va_up (va_up f_1 95 (ai (ca 0) 200 (pwr (swr sv (rowW (prevD M i) (kn i) (fn i) (dn i)) 8) (4 * 8) x_4))) 94 (.inr (3, [.ref (ad 95), .int (nI ((4 * 8) + 4))])) := eu
    have c_95 : f_5 95 = ai (ca 0) 200 (pwr (swr sv (rowW (prevD M i) (kn i) (fn i) (dn i)) 8) (4 * 8) x_4) := by rw [ef_5, va_up_ne _ _ (by decide), va_up_self]
    have c_94 : f_5 94 = .inr (3, [.ref (ad 95), .int (nI ((4 * 8) + 4))]) := by rw [ef_5, va_up_self]
    have c_95 : f_5 95 = ai (ca 0) 200 (swr sv (rowW (prevD M i) (kn i) (fn i) (dn i)) 9) := by rw [c_95]; exact congrArg (fun z => ai (ca 0) 200 z) (swr_step sv (rowW (prevD M i) (kn i) (fn i) (dn i)) 8 _ ex_4.symm)
    have c_94 : f_5 94 = .inr (3, [.ref (ad 95), .int (nI 36)]) := c_94
    refine lv_aload_n hx hb dX3_computeDigestOf_65 rfl (lv_at hl 0 rfl) ?_
    have c_90 : f_5 90 = .inr (4, [.ref (ad 91), .ref (ad 94), .ref (ad 96), .ref (ad 97), .ref (ad 98), .ref (ad 99), .int (nI rc)]) := by rw [ef_5, va_up_ne _ _ (by decide), va_up_ne _ _ (by decide)]; exact c_90
    refine x_get (ci := 4) (C := RX3) (T := TX3) (n := 7) (ref := RX3) hx hb hts hin_4 hown hK hw 90 (by omega) c_90 rfl 1 (by decide) hf_21 (fun _ h => h) rfl dX3_computeDigestOf_66 ?_
    refine lv_aload_n hx hb dX3_computeDigestOf_69 rfl (lv_at hl 0 rfl) ?_
    refine lv_iload_n hx hb dX3_computeDigestOf_70 rfl (lv_at hl 1 rfl) ?_
    have c_97 : f_5 97 = ai (ca 0) 200 fn := by rw [ef_5, va_up_ne _ _ (by decide), va_up_ne _ _ (by decide), ef_1, va_up_ne _ _ (by decide), va_up_ne _ _ (by decide)]; exact c_97
    refine x_Vi (q := 90) (As := [.int (nI i)]) (rest := [.ref (ad 94)]) ⟨hx, hb, hml, hown, hts⟩ (k_X3_fileOf_in l D ca N ad B tR tK f_5 dd rc i fn c_90 c_97  (by omega) (by omega) (by omega)) (cwV 1 hts gX3_computeDigestOf_X3_fileOf rfl rfl rfl (by decide +kernel) ⟨Nat.le_of_ble_eq_true rfl, Nat.le_of_ble_eq_true rfl⟩) hK hE hB hw (by omega) c_90 rfl rfl rfl rfl hl.1 (Nat.le_of_ble_eq_true rfl) ⟨Nat.zero_le _, Nat.zero_le _⟩ dX3_computeDigestOf_71 (fun r_8 f_7 H locs hp hw => ?_)
    obtain ⟨er, eu⟩ := hp
    rw [← er]
    rw [← eu] at hw
    refine lv_topi (fun x_9 ex_9 => ?_)
    refine x_Vv (q := 94) (As := [.int x_9]) (rest := []) ⟨hx, hb, hml, hown, hts⟩ (k_X2_pushWord l D ca N ad B tR tK f_5 dd 94 95 36 x_9 (swr sv (rowW (prevD M i) (kn i) (fn i) (dn i)) 9) (by omega) c_94 (by omega) c_95  (by omega)) (cwV 1 hts gX3_computeDigestOf_X2_pushWord rfl rfl rfl (by decide +kernel) ⟨Nat.le_of_ble_eq_true rfl, Nat.le_of_ble_eq_true rfl⟩) hK hE hB hw (by omega) c_94 rfl rfl rfl rfl hl.1 (Nat.le_of_ble_eq_true rfl) ⟨Nat.zero_le _, Nat.zero_le _⟩ dX3_computeDigestOf_74 (fun f_10 H locs hp hw => ?_)
    have eu := hp
    have ef_10 : f_10 = va_up (va_up f_5 95 (ai (ca 0) 200 (pwr (swr sv (rowW (prevD M i) (kn i) (fn i) (dn i)) 9) 36 x_9))) 94 (.inr (3, [.ref (ad 95), .int (nI (36 + 4))])) := eu
    have c_95 : f_10 95 = ai (ca 0) 200 (pwr (swr sv (rowW (prevD M i) (kn i) (fn i) (dn i)) 9) 36 x_9) := by rw [ef_10, va_up_ne _ _ (by decide), va_up_self]
    have c_94 : f_10 94 = .inr (3, [.ref (ad 95), .int (nI (36 + 4))]) := by rw [ef_10, va_up_self]
    have c_95 : f_10 95 = ai (ca 0) 200 (swr sv (rowW (prevD M i) (kn i) (fn i) (dn i)) 10) := by rw [c_95]; exact congrArg (fun z => ai (ca 0) 200 z) (swr_step sv (rowW (prevD M i) (kn i) (fn i) (dn i)) 9 _ ex_9.symm)
    have c_94 : f_10 94 = .inr (3, [.ref (ad 95), .int (nI 40)]) := c_94
    refine lv_aload_n hx hb dX3_computeDigestOf_77 rfl (lv_at hl 0 rfl) ?_
    have c_90 : f_10 90 = .inr (4, [.ref (ad 91), .ref (ad 94), .ref (ad 96), .ref (ad 97), .ref (ad 98), .ref (ad 99), .int (nI rc)]) := by rw [ef_10, va_up_ne _ _ (by decide), va_up_ne _ _ (by decide)]; exact c_90
    refine x_get (ci := 4) (C := RX3) (T := TX3) (n := 7) (ref := RX3) hx hb hts hin_4 hown hK hw 90 (by omega) c_90 rfl 1 (by decide) hf_21 (fun _ h => h) rfl dX3_computeDigestOf_78 ?_
    refine lv_aload_n hx hb dX3_computeDigestOf_81 rfl (lv_at hl 0 rfl) ?_
    refine lv_iload_n hx hb dX3_computeDigestOf_82 rfl (lv_at hl 1 rfl) ?_
    have c_98 : f_10 98 = ai (ca 0) 200 dn := by rw [ef_10, va_up_ne _ _ (by decide), va_up_ne _ _ (by decide), ef_5, va_up_ne _ _ (by decide), va_up_ne _ _ (by decide), ef_1, va_up_ne _ _ (by decide), va_up_ne _ _ (by decide)]; exact c_98
    refine x_Vi (q := 90) (As := [.int (nI i)]) (rest := [.ref (ad 94)]) ⟨hx, hb, hml, hown, hts⟩ (k_X3_dayOf_in l D ca N ad B tR tK f_10 dd rc i dn c_90 c_98  (by omega) (by omega) (by omega)) (cwV 1 hts gX3_computeDigestOf_X3_dayOf rfl rfl rfl (by decide +kernel) ⟨Nat.le_of_ble_eq_true rfl, Nat.le_of_ble_eq_true rfl⟩) hK hE hB hw (by omega) c_90 rfl rfl rfl rfl hl.1 (Nat.le_of_ble_eq_true rfl) ⟨Nat.zero_le _, Nat.zero_le _⟩ dX3_computeDigestOf_83 (fun r_13 f_12 H locs hp hw => ?_)
    obtain ⟨er, eu⟩ := hp
    rw [← er]
    rw [← eu] at hw
    refine lv_topi (fun x_14 ex_14 => ?_)
    refine x_Vv (q := 94) (As := [.int x_14]) (rest := []) ⟨hx, hb, hml, hown, hts⟩ (k_X2_pushWord l D ca N ad B tR tK f_10 dd 94 95 40 x_14 (swr sv (rowW (prevD M i) (kn i) (fn i) (dn i)) 10) (by omega) c_94 (by omega) c_95  (by omega)) (cwV 1 hts gX3_computeDigestOf_X2_pushWord rfl rfl rfl (by decide +kernel) ⟨Nat.le_of_ble_eq_true rfl, Nat.le_of_ble_eq_true rfl⟩) hK hE hB hw (by omega) c_94 rfl rfl rfl rfl hl.1 (Nat.le_of_ble_eq_true rfl) ⟨Nat.zero_le _, Nat.zero_le _⟩ dX3_computeDigestOf_86 (fun f_15 H locs hp hw => ?_)
    have eu := hp
    have ef_15 : f_15 = va_up (va_up f_10 95 (ai (ca 0) 200 (pwr (swr sv (rowW (prevD M i) (kn i) (fn i) (dn i)) 10) 40 x_14))) 94 (.inr (3, [.ref (ad 95), .int (nI (40 + 4))])) := eu
    have c_95 : f_15 95 = ai (ca 0) 200 (pwr (swr sv (rowW (prevD M i) (kn i) (fn i) (dn i)) 10) 40 x_14) := by rw [ef_15, va_up_ne _ _ (by decide), va_up_self]
    have c_94 : f_15 94 = .inr (3, [.ref (ad 95), .int (nI (40 + 4))]) := by rw [ef_15, va_up_self]
    have c_95 : f_15 95 = ai (ca 0) 200 (swr sv (rowW (prevD M i) (kn i) (fn i) (dn i)) 11) := by rw [c_95]; exact congrArg (fun z => ai (ca 0) 200 z) (swr_step sv (rowW (prevD M i) (kn i) (fn i) (dn i)) 10 _ ex_14.symm)
    have c_94 : f_15 94 = .inr (3, [.ref (ad 95), .int (nI 44)]) := c_94
    refine lv_aload_n hx hb dX3_computeDigestOf_89 rfl (lv_at hl 0 rfl) ?_
    have c_90 : f_15 90 = .inr (4, [.ref (ad 91), .ref (ad 94), .ref (ad 96), .ref (ad 97), .ref (ad 98), .ref (ad 99), .int (nI rc)]) := by rw [ef_15, va_up_ne _ _ (by decide), va_up_ne _ _ (by decide)]; exact c_90
    refine x_get (ci := 4) (C := RX3) (T := TX3) (n := 7) (ref := RX3) hx hb hts hin_4 hown hK hw 90 (by omega) c_90 rfl 0 (by decide) hf_12 (fun _ h => h) rfl dX3_computeDigestOf_90 ?_
    refine lv_aload_n hx hb dX3_computeDigestOf_93 rfl (lv_at hl 0 rfl) ?_
    refine x_get (ci := 4) (C := RX3) (T := TX3) (n := 7) (ref := RX3) hx hb hts hin_4 hown hK hw 90 (by omega) c_90 rfl 1 (by decide) hf_21 (fun _ h => h) rfl dX3_computeDigestOf_94 ?_
    have c_91 : f_15 91 = .inr (2, [.ref (ad 92), .ref (ad 93)]) := by rw [ef_15, va_up_ne _ _ (by decide), va_up_ne _ _ (by decide), ef_10, va_up_ne _ _ (by decide), va_up_ne _ _ (by decide), ef_5, va_up_ne _ _ (by decide), va_up_ne _ _ (by decide), ef_1, va_up_ne _ _ (by decide), va_up_ne _ _ (by decide)]; exact c_91
    have c_92 : f_15 92 = ai (ca 0) 8 ce := by rw [ef_15, va_up_ne _ _ (by decide), va_up_ne _ _ (by decide), ef_10, va_up_ne _ _ (by decide), va_up_ne _ _ (by decide), ef_5, va_up_ne _ _ (by decide), va_up_ne _ _ (by decide), ef_1, va_up_ne _ _ (by decide), va_up_ne _ _ (by decide)]; exact c_92
    have c_93 : f_15 93 = ai (ca 0) 64 cw := by rw [ef_15, va_up_ne _ _ (by decide), va_up_ne _ _ (by decide), ef_10, va_up_ne _ _ (by decide), va_up_ne _ _ (by decide), ef_5, va_up_ne _ _ (by decide), va_up_ne _ _ (by decide), ef_1, va_up_ne _ _ (by decide), va_up_ne _ _ (by decide)]; exact c_93
    refine x_Vv (q := 91) (As := [.ref (ad 94)]) (rest := []) ⟨hx, hb, hml, hown, hts⟩ (k_X1_compute l D ca N ad B tR tK f_15 dd 91 92 93 ce cw 94 95 44 (swr sv (rowW (prevD M i) (kn i) (fn i) (dn i)) 11) (by omega) c_91 (by omega) c_92 (by omega) c_93 (by omega) c_94 (by omega) c_95  (by omega) (by omega) (by omega) (by omega)) (cwV 1 hts gX3_computeDigestOf_X1_compute rfl rfl rfl (by decide +kernel) ⟨Nat.le_of_ble_eq_true rfl, Nat.le_of_ble_eq_true rfl⟩) hK hE hB hw (by omega) c_91 rfl rfl rfl rfl hl.1 (Nat.le_of_ble_eq_true rfl) ⟨Nat.zero_le _, Nat.zero_le _⟩ dX3_computeDigestOf_97 (fun f_17 H locs hp hw => ?_)
    obtain ⟨w1_19, e1_20, hq_21, eu⟩ := hp
    have ef_17 : f_17 = va_up (va_up f_15 93 (ai (ca 0) 64 w1_19)) 92 (ai (ca 0) 8 e1_20) := eu
    have c_93 : f_17 93 = ai (ca 0) 64 w1_19 := by rw [ef_17, va_up_ne _ _ (by decide), va_up_self]
    have c_92 : f_17 92 = ai (ca 0) 8 e1_20 := by rw [ef_17, va_up_self]
    exact x_vret hx hb hr hlocks hw ⟨pwr (swr sv (rowW (prevD M i) (kn i) (fn i) (dn i)) 10) 40 (dn i), w1_19, e1_20, (by rw [← rowD_of (g := sv)]; exact hq_21), (by simp only [ef_17, ef_15, ex_14, ef_10, ex_9, ef_5, ex_4, ef_1, up_aa, up_aba _ _ _ _ (show (95 : Nat) ≠ 94 by decide)])⟩ dX3_computeDigestOf_100
  have P_10 : ∀ (n_10 : Nat) (k : Nat) (H : Heap) (locs : List Loc) (ls : Array Slot), 8 + 1 ≤ k + n_10 → (k ≤ 8) → xw D vwCl N ad B s.heap (va_up (va_up f 95 (ai (ca 0) 200 (swr sv (rowW (prevD M i) (kn i) (fn i) (dn i)) k))) 94 (.inr (3, [.ref (ad 95), .int (nI (4 * k))]))) H locs → lv_has ls 3 [(0, .ref (ad 90)), (1, .int (nI i)), (2, .int (nI k))] → W p l e rmX3_computeDigestOf s m ([.ref (ad 90), .int (nI i)] : List Value).toArray below meth c H locs 0 0 (MQ below (xQv (fun u => ∃ sv1 : Nat → Int32, ∃ w1 : Nat → Int32, ∃ e1 : Nat → Int32, (∀ j, j < 8 → e1 j = rowD (prevD M i) (kn i) (fn i) (dn i) j) ∧ u = va_up (va_up (va_up (va_up f 95 (ai (ca 0) 200 sv1)) 94 (.inr (3, [.ref (ad 95), .int (nI 44)]))) 93 (ai (ca 0) 64 w1)) 92 (ai (ca 0) 8 e1)) D N ad B) ([.ref (ad 90), .int (nI i)] : List Value).toArray s 0 0 (xA B)) (F0 m 10 ls []) := by
    intro n_10
    induction n_10 with
    | zero =>
      intro k H locs ls hm_10 hk hw hl
      exact absurd hm_10 (by omega)
    | succ n_10 ih_10 =>
      intro k H locs ls hm_10 hk hw hl
      have c_90 := b_90
      have c_91 := b_91
      have c_92 := b_92
      have c_93 := b_93
      have c_94 := b_94
      have c_95 := b_95
      have c_96 := b_96
      have c_97 := b_97
      have c_98 := b_98
      have c_99 := b_99
      obtain ⟨f_22, ef_22⟩ : ∃ z, z = va_up (va_up f 95 (ai (ca 0) 200 (swr sv (rowW (prevD M i) (kn i) (fn i) (dn i)) k))) 94 (.inr (3, [.ref (ad 95), .int (nI (4 * k))])) := ⟨_, rfl⟩
      have hw : xw D vwCl N ad B s.heap f_22 H locs := by rw [ef_22]; exact hw
      have c_95 : f_22 95 = ai (ca 0) 200 (swr sv (rowW (prevD M i) (kn i) (fn i) (dn i)) k) := by rw [ef_22, va_up_ne _ _ (by decide), va_up_self]
      have c_94 : f_22 94 = .inr (3, [.ref (ad 95), .int (nI (4 * k))]) := by rw [ef_22, va_up_self]
      refine lv_iload_n hx hb dX3_computeDigestOf_10 rfl (lv_at hl 2 rfl) ?_
      refine lv_bipush (v := nI 8) hx hb dX3_computeDigestOf_11 (by decide) ?_
      refine n_icge (tgt := 53) hx hb dX3_computeDigestOf_13 (by decide) (by omega) (by omega) (fun c_13 => ?_) (fun c_13 => ?_)
      · have hw : xw D vwCl N ad B s.heap (va_up (va_up f 95 (ai (ca 0) 200 (swr sv (rowW (prevD M i) (kn i) (fn i) (dn i)) 8))) 94 (.inr (3, [.ref (ad 95), .int (nI (4 * 8))]))) H locs := by
          have ez : f_22 = va_up (va_up f 95 (ai (ca 0) 200 (swr sv (rowW (prevD M i) (kn i) (fn i) (dn i)) 8))) 94 (.inr (3, [.ref (ad 95), .int (nI (4 * 8))])) := by have ek : k = 8 := (by omega); subst ek; simp only [ef_22]
          rw [← ez]; exact hw
        exact P_53  _ _ _  hw (lv_sub hl [0, 1] rfl)
      · refine lv_aload_n hx hb dX3_computeDigestOf_16 rfl (lv_at hl 0 rfl) ?_
        have c_90 : f_22 90 = .inr (4, [.ref (ad 91), .ref (ad 94), .ref (ad 96), .ref (ad 97), .ref (ad 98), .ref (ad 99), .int (nI rc)]) := by rw [ef_22, va_up_ne _ _ (by decide), va_up_ne _ _ (by decide)]; exact c_90
        refine x_get (ci := 4) (C := RX3) (T := TX3) (n := 7) (ref := RX3) hx hb hts hin_4 hown hK hw 90 (by omega) c_90 rfl 1 (by decide) hf_21 (fun _ h => h) rfl dX3_computeDigestOf_17 ?_
        rcases Nat.eq_zero_or_pos i with hz | hz
        · refine lv_aload_n hx hb dX3_computeDigestOf_20 rfl (lv_at hl 0 rfl) ?_
          refine lv_iload_n hx hb dX3_computeDigestOf_21 rfl (lv_at hl 1 rfl) ?_
          refine lv_iconst (v := nI 1) hx hb dX3_computeDigestOf_22 (by decide) ?_
          refine lv_isub hx hb dX3_computeDigestOf_23 ?_
          refine lv_topi (fun x_23 ex_23 => ?_)
          refine x_Vi (q := 90) (As := [.int x_23]) (rest := [.ref (ad 94)]) ⟨hx, hb, hml, hown, hts⟩ (k_X3_has_out l D ca N ad B tR tK f_22 dd rc x_23 c_90  (by omega) (Or.inl (by rw [ex_23, hz]; decide))) (cwV 1 hts gX3_computeDigestOf_X3_has rfl rfl rfl (by decide +kernel) ⟨Nat.le_of_ble_eq_true rfl, Nat.le_of_ble_eq_true rfl⟩) hK hE hB hw (by omega) c_90 rfl rfl rfl rfl hl.1 (Nat.le_of_ble_eq_true rfl) ⟨Nat.zero_le _, Nat.zero_le _⟩ dX3_computeDigestOf_24 (fun r_25 f_24 H locs hp hw => ?_)
          obtain ⟨er, eu⟩ := hp
          rw [← er]
          rw [← eu] at hw
          refine lv_if_eq (tgt := 43) hx hb dX3_computeDigestOf_27 (by decide) (fun _ => ?_) (fun h => False.elim (h (by decide)))
          refine lv_iconst (v := nI 0) hx hb dX3_computeDigestOf_43 (by decide) ?_
          refine x_Vv (q := 94) (As := [.int (nI 0)]) (rest := []) ⟨hx, hb, hml, hown, hts⟩ (k_X2_pushWord l D ca N ad B tR tK f_22 dd 94 95 (4 * k) (nI 0) (swr sv (rowW (prevD M i) (kn i) (fn i) (dn i)) k) (by omega) c_94 (by omega) c_95  (by omega)) (cwV 1 hts gX3_computeDigestOf_X2_pushWord rfl rfl rfl (by decide +kernel) ⟨Nat.le_of_ble_eq_true rfl, Nat.le_of_ble_eq_true rfl⟩) hK hE hB hw (by omega) c_94 rfl rfl rfl rfl hl.1 (Nat.le_of_ble_eq_true rfl) ⟨Nat.zero_le _, Nat.zero_le _⟩ dX3_computeDigestOf_44 (fun f_26 H locs hp hw => ?_)
          have eu := hp
          have ef_26 : f_26 = va_up (va_up f_22 95 (ai (ca 0) 200 (pwr (swr sv (rowW (prevD M i) (kn i) (fn i) (dn i)) k) (4 * k) (nI 0)))) 94 (.inr (3, [.ref (ad 95), .int (nI ((4 * k) + 4))])) := eu
          have c_95 : f_26 95 = ai (ca 0) 200 (pwr (swr sv (rowW (prevD M i) (kn i) (fn i) (dn i)) k) (4 * k) (nI 0)) := by rw [ef_26, va_up_ne _ _ (by decide), va_up_self]
          have c_94 : f_26 94 = .inr (3, [.ref (ad 95), .int (nI ((4 * k) + 4))]) := by rw [ef_26, va_up_self]
          refine lv_iinc (v := nI (k + 1)) (lv' := [(2, .int (nI (k + 1))), (0, .ref (ad 90)), (1, .int (nI i))]) hx hb dX3_computeDigestOf_47 hl (k := 2) rfl (by rw [show Int32.ofInt 1 = nI 1 from rfl]; exact nI_add _ _) (by decide) rfl (fun ls hl => ?_)
          refine lv_goto (tgt := 10) hx hb dX3_computeDigestOf_50 (by decide) ?_
          have hw : xw D vwCl N ad B s.heap (va_up (va_up f 95 (ai (ca 0) 200 (swr sv (rowW (prevD M i) (kn i) (fn i) (dn i)) (k + 1)))) 94 (.inr (3, [.ref (ad 95), .int (nI (4 * (k + 1)))]))) H locs := by
            have ez : f_26 = va_up (va_up f 95 (ai (ca 0) 200 (swr sv (rowW (prevD M i) (kn i) (fn i) (dn i)) (k + 1)))) 94 (.inr (3, [.ref (ad 95), .int (nI (4 * (k + 1)))])) := by simp only [ef_26, ex_23, ef_22, up_aa, up_aba _ _ _ _ (show (95 : Nat) ≠ 94 by decide)]; rw [swr_step sv (rowW (prevD M i) (kn i) (fn i) (dn i)) k _ (by rw [rowW_lt c_13]; first | exact prevD_0 hz | exact prevD_s hz)]; rfl
            rw [← ez]; exact hw
          exact ih_10 (k + 1) _ _ _ (by omega) (by omega) hw (lv_sub hl [1, 2, 0] rfl)
        · refine lv_aload_n hx hb dX3_computeDigestOf_20 rfl (lv_at hl 0 rfl) ?_
          refine lv_iload_n hx hb dX3_computeDigestOf_21 rfl (lv_at hl 1 rfl) ?_
          refine lv_iconst (v := nI 1) hx hb dX3_computeDigestOf_22 (by decide) ?_
          refine n_isub hx hb dX3_computeDigestOf_23 (by omega) ?_
          refine x_Vi (q := 90) (As := [.int (nI (i - 1))]) (rest := [.ref (ad 94)]) ⟨hx, hb, hml, hown, hts⟩ (k_X3_has_in l D ca N ad B tR tK f_22 dd rc (i - 1) c_90  (by omega) (by omega) (by omega)) (cwV 1 hts gX3_computeDigestOf_X3_has rfl rfl rfl (by decide +kernel) ⟨Nat.le_of_ble_eq_true rfl, Nat.le_of_ble_eq_true rfl⟩) hK hE hB hw (by omega) c_90 rfl rfl rfl rfl hl.1 (Nat.le_of_ble_eq_true rfl) ⟨Nat.zero_le _, Nat.zero_le _⟩ dX3_computeDigestOf_24 (fun r_29 f_28 H locs hp hw => ?_)
          obtain ⟨er, eu⟩ := hp
          rw [← er]
          rw [← eu] at hw
          refine lv_if_eq (tgt := 43) hx hb dX3_computeDigestOf_27 (by decide) (fun h => absurd h (by decide)) (fun _ => ?_)
          refine lv_aload_n hx hb dX3_computeDigestOf_30 rfl (lv_at hl 0 rfl) ?_
          refine x_get (ci := 4) (C := RX3) (T := TX3) (n := 7) (ref := RX3) hx hb hts hin_4 hown hK hw 90 (by omega) c_90 rfl 5 (by decide) hf_37 (fun _ h => h) rfl dX3_computeDigestOf_31 ?_
          refine lv_iload_n hx hb dX3_computeDigestOf_34 rfl (lv_at hl 1 rfl) ?_
          refine lv_iconst (v := nI 1) hx hb dX3_computeDigestOf_35 (by decide) ?_
          refine n_isub hx hb dX3_computeDigestOf_36 (by omega) ?_
          have c_99 : f_22 99 = aq (ca 4) 200 (fun i => some (ad (100 + i))) := by rw [ef_22, va_up_ne _ _ (by decide), va_up_ne _ _ (by decide)]; exact c_99
          refine x_aaldA (j := i - 1) (a := ad (100 + (i - 1))) hx hb hK hw 99 4 (by omega) c_99 rfl rfl (by omega) (by decide) rfl dX3_computeDigestOf_37 ?_
          refine lv_iload_n hx hb dX3_computeDigestOf_38 rfl (lv_at hl 2 rfl) ?_
          have c_100_i_1 : f_22 (100 + (i - 1)) = ai (ca 0) 8 (M (i - 1)) := by rw [ef_22, va_up_ne _ _ (by omega), va_up_ne _ _ (by omega)]; exact (F_M (i - 1) (by omega))
          refine x_iald (j := k) hx hb hK hw (100 + (i - 1)) 0 (by omega) c_100_i_1 rfl rfl (by omega) (by decide) dX3_computeDigestOf_39 ?_
          refine lv_goto (tgt := 44) hx hb dX3_computeDigestOf_40 (by decide) ?_
          refine lv_topi (fun x_30 ex_30 => ?_)
          refine x_Vv (q := 94) (As := [.int x_30]) (rest := []) ⟨hx, hb, hml, hown, hts⟩ (k_X2_pushWord l D ca N ad B tR tK f_22 dd 94 95 (4 * k) x_30 (swr sv (rowW (prevD M i) (kn i) (fn i) (dn i)) k) (by omega) c_94 (by omega) c_95  (by omega)) (cwV 1 hts gX3_computeDigestOf_X2_pushWord rfl rfl rfl (by decide +kernel) ⟨Nat.le_of_ble_eq_true rfl, Nat.le_of_ble_eq_true rfl⟩) hK hE hB hw (by omega) c_94 rfl rfl rfl rfl hl.1 (Nat.le_of_ble_eq_true rfl) ⟨Nat.zero_le _, Nat.zero_le _⟩ dX3_computeDigestOf_44 (fun f_31 H locs hp hw => ?_)
          have eu := hp
          have ef_31 : f_31 = va_up (va_up f_22 95 (ai (ca 0) 200 (pwr (swr sv (rowW (prevD M i) (kn i) (fn i) (dn i)) k) (4 * k) x_30))) 94 (.inr (3, [.ref (ad 95), .int (nI ((4 * k) + 4))])) := eu
          have c_95 : f_31 95 = ai (ca 0) 200 (pwr (swr sv (rowW (prevD M i) (kn i) (fn i) (dn i)) k) (4 * k) x_30) := by rw [ef_31, va_up_ne _ _ (by decide), va_up_self]
          have c_94 : f_31 94 = .inr (3, [.ref (ad 95), .int (nI ((4 * k) + 4))]) := by rw [ef_31, va_up_self]
          refine lv_iinc (v := nI (k + 1)) (lv' := [(2, .int (nI (k + 1))), (0, .ref (ad 90)), (1, .int (nI i))]) hx hb dX3_computeDigestOf_47 hl (k := 2) rfl (by rw [show Int32.ofInt 1 = nI 1 from rfl]; exact nI_add _ _) (by decide) rfl (fun ls hl => ?_)
          refine lv_goto (tgt := 10) hx hb dX3_computeDigestOf_50 (by decide) ?_
          have hw : xw D vwCl N ad B s.heap (va_up (va_up f 95 (ai (ca 0) 200 (swr sv (rowW (prevD M i) (kn i) (fn i) (dn i)) (k + 1)))) 94 (.inr (3, [.ref (ad 95), .int (nI (4 * (k + 1)))]))) H locs := by
            have ez : f_31 = va_up (va_up f 95 (ai (ca 0) 200 (swr sv (rowW (prevD M i) (kn i) (fn i) (dn i)) (k + 1)))) 94 (.inr (3, [.ref (ad 95), .int (nI (4 * (k + 1)))])) := by simp only [ef_31, ex_30, ef_22, up_aa, up_aba _ _ _ _ (show (95 : Nat) ≠ 94 by decide)]; rw [swr_step sv (rowW (prevD M i) (kn i) (fn i) (dn i)) k _ (by rw [rowW_lt c_13]; first | exact prevD_0 hz | exact prevD_s hz)]; rfl
            rw [← ez]; exact hw
          exact ih_10 (k + 1) _ _ _ (by omega) (by omega) hw (lv_sub hl [1, 2, 0] rfl)
  refine lv_aload_n hx hb dX3_computeDigestOf_0 rfl (lv_at hl 0 rfl) ?_
  refine x_get (ci := 4) (C := RX3) (T := TX3) (n := 7) (ref := RX3) hx hb hts hin_4 hown hK hw 90 (by omega) c_90 rfl 1 (by decide) hf_21 (fun _ h => h) rfl dX3_computeDigestOf_1 ?_
  refine lv_iconst (v := nI 0) hx hb dX3_computeDigestOf_4 (by decide) ?_
  refine x_Vv (q := 94) (As := [.int (nI 0)]) (rest := []) ⟨hx, hb, hml, hown, hts⟩ (k_X2_shorten_zero l D ca N ad B tR tK f dd 94 95 sn (by omega) c_94  (by omega)) (cwV 1 hts gX3_computeDigestOf_X2_shorten rfl rfl rfl (by decide +kernel) ⟨Nat.le_of_ble_eq_true rfl, Nat.le_of_ble_eq_true rfl⟩) hK hE hB hw (by omega) c_94 rfl rfl rfl rfl hl.1 (Nat.le_of_ble_eq_true rfl) ⟨Nat.zero_le _, Nat.zero_le _⟩ dX3_computeDigestOf_5 (fun f_33 H locs hp hw => ?_)
  have eu := hp
  have ef_33 : f_33 = va_up f 94 (.inr (3, [.ref (ad 95), .int (nI 0)])) := eu
  have c_94 : f_33 94 = .inr (3, [.ref (ad 95), .int (nI 0)]) := by rw [ef_33, va_up_self]
  refine lv_iconst (v := nI 0) hx hb dX3_computeDigestOf_8 (by decide) ?_
  refine lv_istore_n (lv' := [(2, .int (nI 0)), (0, .ref (ad 90)), (1, .int (nI i))]) hx hb dX3_computeDigestOf_9 rfl hl (by decide) rfl (fun ls hl => ?_)
  have hw : xw D vwCl N ad B s.heap (va_up (va_up f 95 (ai (ca 0) 200 (swr sv (rowW (prevD M i) (kn i) (fn i) (dn i)) 0))) 94 (.inr (3, [.ref (ad 95), .int (nI (4 * 0))]))) H locs := by
    have ez : f_33 = va_up (va_up f 95 (ai (ca 0) 200 (swr sv (rowW (prevD M i) (kn i) (fn i) (dn i)) 0))) 94 (.inr (3, [.ref (ad 95), .int (nI (4 * 0))])) := by rw [ef_33]; show _ = va_up (va_up f 95 (ai (ca 0) 200 sv)) 94 _; rw [← b_95, up_same]
    rw [← ez]; exact hw
  exact P_10 9 0 _ _ _ (by omega) (by omega) hw (lv_sub hl [1, 2, 0] rfl)
