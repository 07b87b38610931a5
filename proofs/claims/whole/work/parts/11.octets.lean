abbrev rmX2_count : Room := { frames := 0, cells := 0, slots := 0, locals := 0 }

set_option maxHeartbeats 4000000 in
set_option maxRecDepth 100000 in
/-- Octets.count -/
theorem k_X2_count (l : Launch) (D : va_G) (ca : Nat → ClassId) (N : Nat) (ad : Nat → Nat) (B tR tK : Nat) (f : Nat → va_E) (dd : xD N ad B) (q : Nat) (v : Nat) (k : Nat) (l_q : q < N) (c_q : f q = .inr (3, [.ref (ad v), .int (nI k)]))   : xMi l yX2_count wsX2_count rmX2_count [.ref (ad q)] D ca N ad B tR tK f (fun r u => nI k = r ∧ f = u) := by
  refine x_open (cc := cX2_count) (maxL := 1) (ret := (some .int)) (by decide) rfl (Nat.le_of_ble_eq_true rfl) ?_
  intro p e s m below meth c ls hx hb hml hown hts hr hlocks hnm hB hK hE hw hl
  have hown : s.vm.findClass RX2 = some m.cls := hown
  have hl : lv_has ls 1 [(0, .ref (ad q))] := hl
  have hin_3 : ∀ w ∈ u_ws RX2 TX2 2, w ∈ wsX2_count := by decide +kernel
  have hf_15 := hts (.fieldLink RX2 15 "FixityRows$Octets" "size" "I") (by decide +kernel)
  have b_q := c_q
  refine lv_aload_n hx hb dX2_count_0 rfl (lv_at hl 0 rfl) ?_
  refine x_get (ci := 3) (C := RX2) (T := TX2) (n := 2) (ref := RX2) hx hb hts hin_3 hown hK hw q l_q c_q rfl 1 (by decide) hf_15 (fun _ h => h) rfl dX2_count_1 ?_
  exact x_iret hx hb hr hlocks hw ⟨rfl, rfl⟩ dX2_count_4

abbrev rmX2_has : Room := { frames := 0, cells := 0, slots := 0, locals := 0 }

set_option maxHeartbeats 4000000 in
set_option maxRecDepth 100000 in
/-- Octets.has, within -/
theorem k_X2_has_in (l : Launch) (D : va_G) (ca : Nat → ClassId) (N : Nat) (ad : Nat → Nat) (B tR tK : Nat) (f : Nat → va_E) (dd : xD N ad B) (q : Nat) (v : Nat) (k : Nat) (j : Nat) (l_q : q < N) (c_q : f q = .inr (3, [.ref (ad v), .int (nI k)]))  (hj : j < k) (hk : k < 2 ^ 31) : xMi l yX2_has wsX2_has rmX2_has [.ref (ad q), .int (nI j)] D ca N ad B tR tK f (fun r u => nI 1 = r ∧ f = u) := by
  refine x_open (cc := cX2_has) (maxL := 2) (ret := (some .boolean)) (by decide) rfl (Nat.le_of_ble_eq_true rfl) ?_
  intro p e s m below meth c ls hx hb hml hown hts hr hlocks hnm hB hK hE hw hl
  have hown : s.vm.findClass RX2 = some m.cls := hown
  have hl : lv_has ls 2 [(0, .ref (ad q)), (1, .int (nI j))] := hl
  have hin_3 : ∀ w ∈ u_ws RX2 TX2 2, w ∈ wsX2_has := by decide +kernel
  have hf_15 := hts (.fieldLink RX2 15 "FixityRows$Octets" "size" "I") (by decide +kernel)
  have b_q := c_q
  refine lv_iload_n hx hb dX2_has_0 rfl (lv_at hl 1 rfl) ?_
  refine n_iflt (tgt := 16) hx hb dX2_has_1 (by decide) (by omega) ?_
  refine lv_iload_n hx hb dX2_has_4 rfl (lv_at hl 1 rfl) ?_
  refine lv_aload_n hx hb dX2_has_5 rfl (lv_at hl 0 rfl) ?_
  refine x_get (ci := 3) (C := RX2) (T := TX2) (n := 2) (ref := RX2) hx hb hts hin_3 hown hK hw q l_q c_q rfl 1 (by decide) hf_15 (fun _ h => h) rfl dX2_has_6 ?_
  refine n_icge (tgt := 16) hx hb dX2_has_9 (by decide) (by omega) (by omega) (fun c_9 => ?_) (fun c_9 => ?_)
  · omega
  · refine lv_iconst (v := nI 1) hx hb dX2_has_12 (by decide) ?_
    refine lv_goto (tgt := 17) hx hb dX2_has_13 (by decide) ?_
    exact x_zret hx hb hr hlocks hw (by first | exact Or.inl rfl | exact Or.inr rfl) ⟨rfl, rfl⟩ dX2_has_17

set_option maxHeartbeats 4000000 in
set_option maxRecDepth 100000 in
/-- Octets.has, outside -/
theorem k_X2_has_out (l : Launch) (D : va_G) (ca : Nat → ClassId) (N : Nat) (ad : Nat → Nat) (B tR tK : Nat) (f : Nat → va_E) (dd : xD N ad B) (q : Nat) (v : Nat) (k : Nat) (x : Int32) (l_q : q < N) (c_q : f q = .inr (3, [.ref (ad v), .int (nI k)]))  (ho : x < 0 ∨ nI k ≤ x) : xMi l yX2_has wsX2_has rmX2_has [.ref (ad q), .int x] D ca N ad B tR tK f (fun r u => nI 0 = r ∧ f = u) := by
  refine x_open (cc := cX2_has) (maxL := 2) (ret := (some .boolean)) (by decide) rfl (Nat.le_of_ble_eq_true rfl) ?_
  intro p e s m below meth c ls hx hb hml hown hts hr hlocks hnm hB hK hE hw hl
  have hown : s.vm.findClass RX2 = some m.cls := hown
  have hl : lv_has ls 2 [(0, .ref (ad q)), (1, .int x)] := hl
  have hin_3 : ∀ w ∈ u_ws RX2 TX2 2, w ∈ wsX2_has := by decide +kernel
  have hf_15 := hts (.fieldLink RX2 15 "FixityRows$Octets" "size" "I") (by decide +kernel)
  have b_q := c_q
  refine lv_iload_n hx hb dX2_has_0 rfl (lv_at hl 1 rfl) ?_
  refine lv_if_lt (tgt := 16) hx hb dX2_has_1 (by decide) (fun c_1 => ?_) (fun c_1 => ?_)
  · refine lv_iconst (v := nI 0) hx hb dX2_has_16 (by decide) ?_
    exact x_zret hx hb hr hlocks hw (by first | exact Or.inl rfl | exact Or.inr rfl) ⟨rfl, rfl⟩ dX2_has_17
  · refine lv_iload_n hx hb dX2_has_4 rfl (lv_at hl 1 rfl) ?_
    refine lv_aload_n hx hb dX2_has_5 rfl (lv_at hl 0 rfl) ?_
    refine x_get (ci := 3) (C := RX2) (T := TX2) (n := 2) (ref := RX2) hx hb hts hin_3 hown hK hw q l_q c_q rfl 1 (by decide) hf_15 (fun _ h => h) rfl dX2_has_6 ?_
    refine lv_icmp_ge (tgt := 16) hx hb dX2_has_9 (by decide) (fun c_9 => ?_) (fun c_9 => ?_)
    · refine lv_iconst (v := nI 0) hx hb dX2_has_16 (by decide) ?_
      exact x_zret hx hb hr hlocks hw (by first | exact Or.inl rfl | exact Or.inr rfl) ⟨rfl, rfl⟩ dX2_has_17
    · exact absurd ho (fun z => z.elim c_1 c_9)

abbrev rmX2_value : Room := { frames := 0, cells := 0, slots := 0, locals := 0 }

set_option maxHeartbeats 4000000 in
set_option maxRecDepth 100000 in
/-- Octets.value, within -/
theorem k_X2_value_in (l : Launch) (D : va_G) (ca : Nat → ClassId) (N : Nat) (ad : Nat → Nat) (B tR tK : Nat) (f : Nat → va_E) (dd : xD N ad B) (q : Nat) (v : Nat) (k : Nat) (j : Nat) (g : Nat → Int32) (l_q : q < N) (c_q : f q = .inr (3, [.ref (ad v), .int (nI k)])) (l_v : v < N) (c_v : f v = ai (ca 0) 200 g)  (hj : j < k) (hk : k ≤ 200) : xMi l yX2_value wsX2_value rmX2_value [.ref (ad q), .int (nI j)] D ca N ad B tR tK f (fun r u => g j = r ∧ f = u) := by
  refine x_open (cc := cX2_value) (maxL := 2) (ret := (some .int)) (by decide) rfl (Nat.le_of_ble_eq_true rfl) ?_
  intro p e s m below meth c ls hx hb hml hown hts hr hlocks hnm hB hK hE hw hl
  have hown : s.vm.findClass RX2 = some m.cls := hown
  have hl : lv_has ls 2 [(0, .ref (ad q)), (1, .int (nI j))] := hl
  have hin_3 : ∀ w ∈ u_ws RX2 TX2 2, w ∈ wsX2_value := by decide +kernel
  have hf_15 := hts (.fieldLink RX2 15 "FixityRows$Octets" "size" "I") (by decide +kernel)
  have hf_9 := hts (.fieldLink RX2 9 "FixityRows$Octets" "values" "[I") (by decide +kernel)
  have b_q := c_q
  have b_v := c_v
  refine lv_iload_n hx hb dX2_value_0 rfl (lv_at hl 1 rfl) ?_
  refine n_iflt (tgt := 21) hx hb dX2_value_1 (by decide) (by omega) ?_
  refine lv_iload_n hx hb dX2_value_4 rfl (lv_at hl 1 rfl) ?_
  refine lv_aload_n hx hb dX2_value_5 rfl (lv_at hl 0 rfl) ?_
  refine x_get (ci := 3) (C := RX2) (T := TX2) (n := 2) (ref := RX2) hx hb hts hin_3 hown hK hw q l_q c_q rfl 1 (by decide) hf_15 (fun _ h => h) rfl dX2_value_6 ?_
  refine n_icge (tgt := 21) hx hb dX2_value_9 (by decide) (by omega) (by omega) (fun c_9 => ?_) (fun c_9 => ?_)
  · omega
  · refine lv_aload_n hx hb dX2_value_12 rfl (lv_at hl 0 rfl) ?_
    refine x_get (ci := 3) (C := RX2) (T := TX2) (n := 2) (ref := RX2) hx hb hts hin_3 hown hK hw q l_q c_q rfl 0 (by decide) hf_9 (fun _ h => h) rfl dX2_value_13 ?_
    refine lv_iload_n hx hb dX2_value_16 rfl (lv_at hl 1 rfl) ?_
    refine x_iald (j := j) hx hb hK hw v 0 l_v c_v rfl rfl (by omega) (by decide) dX2_value_17 ?_
    refine lv_goto (tgt := 22) hx hb dX2_value_18 (by decide) ?_
    exact x_iret hx hb hr hlocks hw ⟨rfl, rfl⟩ dX2_value_22

set_option maxHeartbeats 4000000 in
set_option maxRecDepth 100000 in
/-- Octets.value, outside -/
theorem k_X2_value_out (l : Launch) (D : va_G) (ca : Nat → ClassId) (N : Nat) (ad : Nat → Nat) (B tR tK : Nat) (f : Nat → va_E) (dd : xD N ad B) (q : Nat) (v : Nat) (k : Nat) (x : Int32) (l_q : q < N) (c_q : f q = .inr (3, [.ref (ad v), .int (nI k)]))  (ho : x < 0 ∨ nI k ≤ x) : xMi l yX2_value wsX2_value rmX2_value [.ref (ad q), .int x] D ca N ad B tR tK f (fun r u => nI 0 = r ∧ f = u) := by
  refine x_open (cc := cX2_value) (maxL := 2) (ret := (some .int)) (by decide) rfl (Nat.le_of_ble_eq_true rfl) ?_
  intro p e s m below meth c ls hx hb hml hown hts hr hlocks hnm hB hK hE hw hl
  have hown : s.vm.findClass RX2 = some m.cls := hown
  have hl : lv_has ls 2 [(0, .ref (ad q)), (1, .int x)] := hl
  have hin_3 : ∀ w ∈ u_ws RX2 TX2 2, w ∈ wsX2_value := by decide +kernel
  have hf_15 := hts (.fieldLink RX2 15 "FixityRows$Octets" "size" "I") (by decide +kernel)
  have b_q := c_q
  refine lv_iload_n hx hb dX2_value_0 rfl (lv_at hl 1 rfl) ?_
  refine lv_if_lt (tgt := 21) hx hb dX2_value_1 (by decide) (fun c_1 => ?_) (fun c_1 => ?_)
  · refine lv_iconst (v := nI 0) hx hb dX2_value_21 (by decide) ?_
    exact x_iret hx hb hr hlocks hw ⟨rfl, rfl⟩ dX2_value_22
  · refine lv_iload_n hx hb dX2_value_4 rfl (lv_at hl 1 rfl) ?_
    refine lv_aload_n hx hb dX2_value_5 rfl (lv_at hl 0 rfl) ?_
    refine x_get (ci := 3) (C := RX2) (T := TX2) (n := 2) (ref := RX2) hx hb hts hin_3 hown hK hw q l_q c_q rfl 1 (by decide) hf_15 (fun _ h => h) rfl dX2_value_6 ?_
    refine lv_icmp_ge (tgt := 21) hx hb dX2_value_9 (by decide) (fun c_9 => ?_) (fun c_9 => ?_)
    · refine lv_iconst (v := nI 0) hx hb dX2_value_21 (by decide) ?_
      exact x_iret hx hb hr hlocks hw ⟨rfl, rfl⟩ dX2_value_22
    · exact absurd ho (fun z => z.elim c_1 c_9)

abbrev rmX2_push : Room := { frames := 0, cells := 0, slots := 0, locals := 0 }

set_option maxHeartbeats 4000000 in
set_option maxRecDepth 100000 in
/-- Octets.push, with room -/
theorem k_X2_push_in (l : Launch) (D : va_G) (ca : Nat → ClassId) (N : Nat) (ad : Nat → Nat) (B tR tK : Nat) (f : Nat → va_E) (dd : xD N ad B) (q : Nat) (v : Nat) (k : Nat) (x : Int32) (g : Nat → Int32) (l_q : q < N) (c_q : f q = .inr (3, [.ref (ad v), .int (nI k)])) (l_v : v < N) (c_v : f v = ai (ca 0) 200 g)  (hk : k < 200) : xMv l yX2_push wsX2_push rmX2_push [.ref (ad q), .int x] D ca N ad B tR tK f (fun u => u = va_up (va_up f v (ai (ca 0) 200 (upd g k (x &&& nI 255)))) q (.inr (3, [.ref (ad v), .int (nI (k + 1))]))) := by
  refine x_open (cc := cX2_push) (maxL := 2) (ret := none) (by decide) rfl (Nat.le_of_ble_eq_true rfl) ?_
  intro p e s m below meth c ls hx hb hml hown hts hr hlocks hnm hB hK hE hw hl
  have hown : s.vm.findClass RX2 = some m.cls := hown
  have hl : lv_has ls 2 [(0, .ref (ad q)), (1, .int x)] := hl
  have hin_3 : ∀ w ∈ u_ws RX2 TX2 2, w ∈ wsX2_push := by decide +kernel
  have hf_15 := hts (.fieldLink RX2 15 "FixityRows$Octets" "size" "I") (by decide +kernel)
  have hf_9 := hts (.fieldLink RX2 9 "FixityRows$Octets" "values" "[I") (by decide +kernel)
  have b_q := c_q
  have b_v := c_v
  refine lv_aload_n hx hb dX2_push_0 rfl (lv_at hl 0 rfl) ?_
  refine x_get (ci := 3) (C := RX2) (T := TX2) (n := 2) (ref := RX2) hx hb hts hin_3 hown hK hw q l_q c_q rfl 1 (by decide) hf_15 (fun _ h => h) rfl dX2_push_1 ?_
  refine lv_sipush (v := nI 200) hx hb dX2_push_4 (by decide) ?_
  refine n_icge (tgt := 34) hx hb dX2_push_7 (by decide) (by omega) (by omega) (fun c_7 => ?_) (fun c_7 => ?_)
  · omega
  · refine lv_aload_n hx hb dX2_push_10 rfl (lv_at hl 0 rfl) ?_
    refine x_get (ci := 3) (C := RX2) (T := TX2) (n := 2) (ref := RX2) hx hb hts hin_3 hown hK hw q l_q c_q rfl 0 (by decide) hf_9 (fun _ h => h) rfl dX2_push_11 ?_
    refine lv_aload_n hx hb dX2_push_14 rfl (lv_at hl 0 rfl) ?_
    refine x_get (ci := 3) (C := RX2) (T := TX2) (n := 2) (ref := RX2) hx hb hts hin_3 hown hK hw q l_q c_q rfl 1 (by decide) hf_15 (fun _ h => h) rfl dX2_push_15 ?_
    refine lv_iload_n hx hb dX2_push_18 rfl (lv_at hl 1 rfl) ?_
    refine lv_sipush (v := nI 255) hx hb dX2_push_19 (by decide) ?_
    refine lv_iand hx hb dX2_push_22 ?_
    refine lv_topi (fun x_1 ex_1 => ?_)
    refine x_iast (j := k) hx hb hK dd hw v 0 l_v c_v rfl rfl (by omega) (by decide) dX2_push_23 (fun H locs hw => ?_)
    obtain ⟨f_2, ef_2⟩ : ∃ z, z = va_up f v (ai (ca 0) 200 (upd g k x_1)) := ⟨_, rfl⟩
    have hw : xw D vwCl N ad B s.heap f_2 H locs := by rw [ef_2]; exact hw
    have c_v : f_2 v = ai (ca 0) 200 (upd g k x_1) := va_up_of ef_2
    refine lv_aload_n hx hb dX2_push_24 rfl (lv_at hl 0 rfl) ?_
    refine lv_dup hx hb dX2_push_25 rfl ?_
    have c_q : f_2 q = .inr (3, [.ref (ad v), .int (nI k)]) := by rw [ef_2, va_up_ne _ _ (kd_ne' b_v b_q)]; exact c_q
    refine x_get (ci := 3) (C := RX2) (T := TX2) (n := 2) (ref := RX2) hx hb hts hin_3 hown hK hw q l_q c_q rfl 1 (by decide) hf_15 (fun _ h => h) rfl dX2_push_26 ?_
    refine lv_iconst (v := nI 1) hx hb dX2_push_29 (by decide) ?_
    refine n_iadd hx hb dX2_push_30 ?_
    refine x_put (ci := 3) (C := RX2) (T := TX2) (n := 2) (ref := RX2) (fs' := [.ref (ad v), .int (nI (k + 1))]) hx hb hts hin_3 tyX2 tyX2_ok nmX2 hown hK dd hw q l_q c_q rfl 1 (by decide) hf_15 (fun _ h => h) rfl rfl rfl (Nat.le_of_ble_eq_true rfl) rfl dX2_push_31 (fun H locs hw => ?_)
    obtain ⟨f_3, ef_3⟩ : ∃ z, z = va_up f_2 q (.inr (3, [.ref (ad v), .int (nI (k + 1))])) := ⟨_, rfl⟩
    have hw : xw D vwCl N ad B s.heap f_3 H locs := by rw [ef_3]; exact hw
    have c_q : f_3 q = .inr (3, [.ref (ad v), .int (nI (k + 1))]) := va_up_of ef_3
    exact x_vret hx hb hr hlocks hw (by simp only [ef_3, ef_2, ex_1]) dX2_push_34

set_option maxHeartbeats 4000000 in
set_option maxRecDepth 100000 in
/-- Octets.push, full -/
theorem k_X2_push_full (l : Launch) (D : va_G) (ca : Nat → ClassId) (N : Nat) (ad : Nat → Nat) (B tR tK : Nat) (f : Nat → va_E) (dd : xD N ad B) (q : Nat) (v : Nat) (k : Nat) (x : Int32) (l_q : q < N) (c_q : f q = .inr (3, [.ref (ad v), .int (nI k)]))  (hk : 200 ≤ k) (hk2 : k < 2 ^ 31) : xMv l yX2_push wsX2_push rmX2_push [.ref (ad q), .int x] D ca N ad B tR tK f (fun u => f = u) := by
  refine x_open (cc := cX2_push) (maxL := 2) (ret := none) (by decide) rfl (Nat.le_of_ble_eq_true rfl) ?_
  intro p e s m below meth c ls hx hb hml hown hts hr hlocks hnm hB hK hE hw hl
  have hown : s.vm.findClass RX2 = some m.cls := hown
  have hl : lv_has ls 2 [(0, .ref (ad q)), (1, .int x)] := hl
  have hin_3 : ∀ w ∈ u_ws RX2 TX2 2, w ∈ wsX2_push := by decide +kernel
  have hf_15 := hts (.fieldLink RX2 15 "FixityRows$Octets" "size" "I") (by decide +kernel)
  have b_q := c_q
  refine lv_aload_n hx hb dX2_push_0 rfl (lv_at hl 0 rfl) ?_
  refine x_get (ci := 3) (C := RX2) (T := TX2) (n := 2) (ref := RX2) hx hb hts hin_3 hown hK hw q l_q c_q rfl 1 (by decide) hf_15 (fun _ h => h) rfl dX2_push_1 ?_
  refine lv_sipush (v := nI 200) hx hb dX2_push_4 (by decide) ?_
  refine n_icge (tgt := 34) hx hb dX2_push_7 (by decide) (by omega) (by omega) (fun c_7 => ?_) (fun c_7 => ?_)
  · exact x_vret hx hb hr hlocks hw rfl dX2_push_34
  · omega

abbrev rmX2_pushWord : Room := { frames := 1, cells := 0, slots := 0, locals := 21 }

set_option maxHeartbeats 4000000 in
set_option maxRecDepth 100000 in
/-- Octets.pushWord -/
theorem k_X2_pushWord (l : Launch) (D : va_G) (ca : Nat → ClassId) (N : Nat) (ad : Nat → Nat) (B tR tK : Nat) (f : Nat → va_E) (dd : xD N ad B) (q : Nat) (v : Nat) (k : Nat) (x : Int32) (g : Nat → Int32) (l_q : q < N) (c_q : f q = .inr (3, [.ref (ad v), .int (nI k)])) (l_v : v < N) (c_v : f v = ai (ca 0) 200 g)  (hk : k + 4 ≤ 200) : xMv l yX2_pushWord wsX2_pushWord rmX2_pushWord [.ref (ad q), .int x] D ca N ad B tR tK f (fun u => u = va_up (va_up f v (ai (ca 0) 200 (pwr g k x))) q (.inr (3, [.ref (ad v), .int (nI (k + 4))]))) := by
  refine x_open (cc := cX2_pushWord) (maxL := 3) (ret := none) (by decide) rfl (Nat.le_of_ble_eq_true rfl) ?_
  intro p e s m below meth c ls hx hb hml hown hts hr hlocks hnm hB hK hE hw hl
  have hown : s.vm.findClass RX2 = some m.cls := hown
  have hl : lv_has ls 3 [(0, .ref (ad q)), (1, .int x)] := hl
  have b_q := c_q
  have b_v := c_v
  refine lv_bipush (v := nI 24) hx hb dX2_pushWord_0 (by decide) ?_
  refine lv_istore_n (lv' := [(2, .int (nI 24)), (0, .ref (ad q)), (1, .int x)]) hx hb dX2_pushWord_2 rfl hl (by decide) rfl (fun ls hl => ?_)
  refine lv_iload_n hx hb dX2_pushWord_3 rfl (lv_at hl 0 rfl) ?_
  refine lv_if_lt (tgt := 20) hx hb dX2_pushWord_4 (by decide) (fun h => absurd h (by decide)) (fun _ => ?_)
  refine lv_aload_n hx hb dX2_pushWord_7 rfl (lv_at hl 1 rfl) ?_
  refine lv_iload_n hx hb dX2_pushWord_8 rfl (lv_at hl 2 rfl) ?_
  refine lv_iload_n hx hb dX2_pushWord_9 rfl (lv_at hl 0 rfl) ?_
  refine n_iushr hx hb dX2_pushWord_10 ?_
  refine lv_topi (fun x_1 ex_1 => ?_)
  refine x_Vv (q := q) (As := [.int x_1]) (rest := []) ⟨hx, hb, hml, hown, hts⟩ (k_X2_push_in l D ca N ad B tR tK f dd q v k x_1 g l_q c_q l_v c_v  (by omega)) (cwV 1 hts gX2_pushWord_X2_push rfl rfl rfl (by decide +kernel) ⟨Nat.le_of_ble_eq_true rfl, Nat.le_of_ble_eq_true rfl⟩) hK hE hB hw l_q c_q rfl rfl rfl rfl hl.1 (Nat.le_of_ble_eq_true rfl) ⟨Nat.zero_le _, Nat.zero_le _⟩ dX2_pushWord_11 (fun f_2 H locs hp hw => ?_)
  have eu := hp
  have ef_2 : f_2 = va_up (va_up f v (ai (ca 0) 200 (upd g k (x_1 &&& nI 255)))) q (.inr (3, [.ref (ad v), .int (nI (k + 1))])) := eu
  have c_v : f_2 v = ai (ca 0) 200 (upd g k (x_1 &&& nI 255)) := by rw [ef_2, va_up_ne _ _ (kd_ne b_q b_v), va_up_self]
  have c_q : f_2 q = .inr (3, [.ref (ad v), .int (nI (k + 1))]) := by rw [ef_2, va_up_self]
  refine lv_iinc (v := nI 16) (lv' := [(2, .int (nI 16)), (0, .ref (ad q)), (1, .int x)]) hx hb dX2_pushWord_14 hl (k := 0) rfl (by decide) (by decide) rfl (fun ls hl => ?_)
  refine lv_goto (tgt := 3) hx hb dX2_pushWord_17 (by decide) ?_
  refine lv_iload_n hx hb dX2_pushWord_3 rfl (lv_at hl 0 rfl) ?_
  refine lv_if_lt (tgt := 20) hx hb dX2_pushWord_4 (by decide) (fun h => absurd h (by decide)) (fun _ => ?_)
  refine lv_aload_n hx hb dX2_pushWord_7 rfl (lv_at hl 1 rfl) ?_
  refine lv_iload_n hx hb dX2_pushWord_8 rfl (lv_at hl 2 rfl) ?_
  refine lv_iload_n hx hb dX2_pushWord_9 rfl (lv_at hl 0 rfl) ?_
  refine n_iushr hx hb dX2_pushWord_10 ?_
  refine lv_topi (fun x_4 ex_4 => ?_)
  refine x_Vv (q := q) (As := [.int x_4]) (rest := []) ⟨hx, hb, hml, hown, hts⟩ (k_X2_push_in l D ca N ad B tR tK f_2 dd q v (k + 1) x_4 (upd g k (x_1 &&& nI 255)) l_q c_q l_v c_v  (by omega)) (cwV 1 hts gX2_pushWord_X2_push rfl rfl rfl (by decide +kernel) ⟨Nat.le_of_ble_eq_true rfl, Nat.le_of_ble_eq_true rfl⟩) hK hE hB hw l_q c_q rfl rfl rfl rfl hl.1 (Nat.le_of_ble_eq_true rfl) ⟨Nat.zero_le _, Nat.zero_le _⟩ dX2_pushWord_11 (fun f_5 H locs hp hw => ?_)
  have eu := hp
  have ef_5 : f_5 = va_up (va_up f_2 v (ai (ca 0) 200 (upd (upd g k (x_1 &&& nI 255)) (k + 1) (x_4 &&& nI 255)))) q (.inr (3, [.ref (ad v), .int (nI ((k + 1) + 1))])) := eu
  have c_v : f_5 v = ai (ca 0) 200 (upd (upd g k (x_1 &&& nI 255)) (k + 1) (x_4 &&& nI 255)) := by rw [ef_5, va_up_ne _ _ (kd_ne b_q b_v), va_up_self]
  have c_q : f_5 q = .inr (3, [.ref (ad v), .int (nI ((k + 1) + 1))]) := by rw [ef_5, va_up_self]
  refine lv_iinc (v := nI 8) (lv' := [(2, .int (nI 8)), (0, .ref (ad q)), (1, .int x)]) hx hb dX2_pushWord_14 hl (k := 0) rfl (by decide) (by decide) rfl (fun ls hl => ?_)
  refine lv_goto (tgt := 3) hx hb dX2_pushWord_17 (by decide) ?_
  refine lv_iload_n hx hb dX2_pushWord_3 rfl (lv_at hl 0 rfl) ?_
  refine lv_if_lt (tgt := 20) hx hb dX2_pushWord_4 (by decide) (fun h => absurd h (by decide)) (fun _ => ?_)
  refine lv_aload_n hx hb dX2_pushWord_7 rfl (lv_at hl 1 rfl) ?_
  refine lv_iload_n hx hb dX2_pushWord_8 rfl (lv_at hl 2 rfl) ?_
  refine lv_iload_n hx hb dX2_pushWord_9 rfl (lv_at hl 0 rfl) ?_
  refine n_iushr hx hb dX2_pushWord_10 ?_
  refine lv_topi (fun x_7 ex_7 => ?_)
  refine x_Vv (q := q) (As := [.int x_7]) (rest := []) ⟨hx, hb, hml, hown, hts⟩ (k_X2_push_in l D ca N ad B tR tK f_5 dd q v ((k + 1) + 1) x_7 (upd (upd g k (x_1 &&& nI 255)) (k + 1) (x_4 &&& nI 255)) l_q c_q l_v c_v  (by omega)) (cwV 1 hts gX2_pushWord_X2_push rfl rfl rfl (by decide +kernel) ⟨Nat.le_of_ble_eq_true rfl, Nat.le_of_ble_eq_true rfl⟩) hK hE hB hw l_q c_q rfl rfl rfl rfl hl.1 (Nat.le_of_ble_eq_true rfl) ⟨Nat.zero_le _, Nat.zero_le _⟩ dX2_pushWord_11 (fun f_8 H locs hp hw => ?_)
  have eu := hp
  have ef_8 : f_8 = va_up (va_up f_5 v (ai (ca 0) 200 (upd (upd (upd g k (x_1 &&& nI 255)) (k + 1) (x_4 &&& nI 255)) ((k + 1) + 1) (x_7 &&& nI 255)))) q (.inr (3, [.ref (ad v), .int (nI (((k + 1) + 1) + 1))])) := eu
  have c_v : f_8 v = ai (ca 0) 200 (upd (upd (upd g k (x_1 &&& nI 255)) (k + 1) (x_4 &&& nI 255)) ((k + 1) + 1) (x_7 &&& nI 255)) := by rw [ef_8, va_up_ne _ _ (kd_ne b_q b_v), va_up_self]
  have c_q : f_8 q = .inr (3, [.ref (ad v), .int (nI (((k + 1) + 1) + 1))]) := by rw [ef_8, va_up_self]
  refine lv_iinc (v := nI 0) (lv' := [(2, .int (nI 0)), (0, .ref (ad q)), (1, .int x)]) hx hb dX2_pushWord_14 hl (k := 0) rfl (by decide) (by decide) rfl (fun ls hl => ?_)
  refine lv_goto (tgt := 3) hx hb dX2_pushWord_17 (by decide) ?_
  refine lv_iload_n hx hb dX2_pushWord_3 rfl (lv_at hl 0 rfl) ?_
  refine lv_if_lt (tgt := 20) hx hb dX2_pushWord_4 (by decide) (fun h => absurd h (by decide)) (fun _ => ?_)
  refine lv_aload_n hx hb dX2_pushWord_7 rfl (lv_at hl 1 rfl) ?_
  refine lv_iload_n hx hb dX2_pushWord_8 rfl (lv_at hl 2 rfl) ?_
  refine lv_iload_n hx hb dX2_pushWord_9 rfl (lv_at hl 0 rfl) ?_
  refine n_iushr hx hb dX2_pushWord_10 ?_
  refine lv_topi (fun x_10 ex_10 => ?_)
  refine x_Vv (q := q) (As := [.int x_10]) (rest := []) ⟨hx, hb, hml, hown, hts⟩ (k_X2_push_in l D ca N ad B tR tK f_8 dd q v (((k + 1) + 1) + 1) x_10 (upd (upd (upd g k (x_1 &&& nI 255)) (k + 1) (x_4 &&& nI 255)) ((k + 1) + 1) (x_7 &&& nI 255)) l_q c_q l_v c_v  (by omega)) (cwV 1 hts gX2_pushWord_X2_push rfl rfl rfl (by decide +kernel) ⟨Nat.le_of_ble_eq_true rfl, Nat.le_of_ble_eq_true rfl⟩) hK hE hB hw l_q c_q rfl rfl rfl rfl hl.1 (Nat.le_of_ble_eq_true rfl) ⟨Nat.zero_le _, Nat.zero_le _⟩ dX2_pushWord_11 (fun f_11 H locs hp hw => ?_)
  have eu := hp
  have ef_11 : f_11 = va_up (va_up f_8 v (ai (ca 0) 200 (upd (upd (upd (upd g k (x_1 &&& nI 255)) (k + 1) (x_4 &&& nI 255)) ((k + 1) + 1) (x_7 &&& nI 255)) (((k + 1) + 1) + 1) (x_10 &&& nI 255)))) q (.inr (3, [.ref (ad v), .int (nI ((((k + 1) + 1) + 1) + 1))])) := eu
  have c_v : f_11 v = ai (ca 0) 200 (upd (upd (upd (upd g k (x_1 &&& nI 255)) (k + 1) (x_4 &&& nI 255)) ((k + 1) + 1) (x_7 &&& nI 255)) (((k + 1) + 1) + 1) (x_10 &&& nI 255)) := by rw [ef_11, va_up_ne _ _ (kd_ne b_q b_v), va_up_self]
  have c_q : f_11 q = .inr (3, [.ref (ad v), .int (nI ((((k + 1) + 1) + 1) + 1))]) := by rw [ef_11, va_up_self]
  refine lv_iinc (v := (-8)) (lv' := [(2, .int ((-8))), (0, .ref (ad q)), (1, .int x)]) hx hb dX2_pushWord_14 hl (k := 0) rfl (by decide) (by decide) rfl (fun ls hl => ?_)
  refine lv_goto (tgt := 3) hx hb dX2_pushWord_17 (by decide) ?_
  refine lv_iload_n hx hb dX2_pushWord_3 rfl (lv_at hl 0 rfl) ?_
  refine lv_if_lt (tgt := 20) hx hb dX2_pushWord_4 (by decide) (fun _ => ?_) (fun h => False.elim (h (by decide)))
  exact x_vret hx hb hr hlocks hw (by simp only [ef_11, ex_10, ef_8, ex_7, ef_5, ex_4, ef_2, ex_1, up_aa, up_aba _ _ _ _ (kd_ne b_q b_v)]; rfl) dX2_pushWord_20

abbrev rmX2_replace : Room := { frames := 1, cells := 0, slots := 0, locals := 21 }

set_option maxHeartbeats 4000000 in
set_option maxRecDepth 100000 in
/-- Octets.replace, within -/
theorem k_X2_replace_in (l : Launch) (D : va_G) (ca : Nat → ClassId) (N : Nat) (ad : Nat → Nat) (B tR tK : Nat) (f : Nat → va_E) (dd : xD N ad B) (q : Nat) (v : Nat) (k : Nat) (j : Nat) (x : Int32) (g : Nat → Int32) (l_q : q < N) (c_q : f q = .inr (3, [.ref (ad v), .int (nI k)])) (l_v : v < N) (c_v : f v = ai (ca 0) 200 g)  (hj : j < k) (hk : k ≤ 200) : xMv l yX2_replace wsX2_replace rmX2_replace [.ref (ad q), .int (nI j), .int x] D ca N ad B tR tK f (fun u => u = va_up f v (ai (ca 0) 200 (upd g j (x &&& nI 255)))) := by
  refine x_open (cc := cX2_replace) (maxL := 3) (ret := none) (by decide) rfl (Nat.le_of_ble_eq_true rfl) ?_
  intro p e s m below meth c ls hx hb hml hown hts hr hlocks hnm hB hK hE hw hl
  have hown : s.vm.findClass RX2 = some m.cls := hown
  have hl : lv_has ls 3 [(0, .ref (ad q)), (1, .int (nI j)), (2, .int x)] := hl
  have hin_3 : ∀ w ∈ u_ws RX2 TX2 2, w ∈ wsX2_replace := by decide +kernel
  have hf_9 := hts (.fieldLink RX2 9 "FixityRows$Octets" "values" "[I") (by decide +kernel)
  have b_q := c_q
  have b_v := c_v
  refine lv_aload_n hx hb dX2_replace_0 rfl (lv_at hl 0 rfl) ?_
  refine lv_iload_n hx hb dX2_replace_1 rfl (lv_at hl 1 rfl) ?_
  refine x_Vi (q := q) (As := [.int (nI j)]) (rest := []) ⟨hx, hb, hml, hown, hts⟩ (k_X2_has_in l D ca N ad B tR tK f dd q v k j l_q c_q  (by omega) (by omega)) (cwV 1 hts gX2_replace_X2_has rfl rfl rfl (by decide +kernel) ⟨Nat.le_of_ble_eq_true rfl, Nat.le_of_ble_eq_true rfl⟩) hK hE hB hw l_q c_q rfl rfl rfl rfl hl.1 (Nat.le_of_ble_eq_true rfl) ⟨Nat.zero_le _, Nat.zero_le _⟩ dX2_replace_2 (fun r_2 f_1 H locs hp hw => ?_)
  obtain ⟨er, eu⟩ := hp
  rw [← er]
  rw [← eu] at hw
  refine lv_if_eq (tgt := 19) hx hb dX2_replace_5 (by decide) (fun h => absurd h (by decide)) (fun _ => ?_)
  refine lv_aload_n hx hb dX2_replace_8 rfl (lv_at hl 0 rfl) ?_
  refine x_get (ci := 3) (C := RX2) (T := TX2) (n := 2) (ref := RX2) hx hb hts hin_3 hown hK hw q l_q c_q rfl 0 (by decide) hf_9 (fun _ h => h) rfl dX2_replace_9 ?_
  refine lv_iload_n hx hb dX2_replace_12 rfl (lv_at hl 1 rfl) ?_
  refine lv_iload_n hx hb dX2_replace_13 rfl (lv_at hl 2 rfl) ?_
  refine lv_sipush (v := nI 255) hx hb dX2_replace_14 (by decide) ?_
  refine lv_iand hx hb dX2_replace_17 ?_
  refine lv_topi (fun x_3 ex_3 => ?_)
  refine x_iast (j := j) hx hb hK dd hw v 0 l_v c_v rfl rfl (by omega) (by decide) dX2_replace_18 (fun H locs hw => ?_)
  obtain ⟨f_4, ef_4⟩ : ∃ z, z = va_up f v (ai (ca 0) 200 (upd g j x_3)) := ⟨_, rfl⟩
  have hw : xw D vwCl N ad B s.heap f_4 H locs := by rw [ef_4]; exact hw
  have c_v : f_4 v = ai (ca 0) 200 (upd g j x_3) := va_up_of ef_4
  exact x_vret hx hb hr hlocks hw (by simp only [ef_4, ex_3]) dX2_replace_19

abbrev rmX2_shorten : Room := { frames := 0, cells := 0, slots := 0, locals := 0 }

set_option maxHeartbeats 4000000 in
set_option maxRecDepth 100000 in
/-- Octets.shorten, to less -/
theorem k_X2_shorten_in (l : Launch) (D : va_G) (ca : Nat → ClassId) (N : Nat) (ad : Nat → Nat) (B tR tK : Nat) (f : Nat → va_E) (dd : xD N ad B) (q : Nat) (v : Nat) (k : Nat) (j : Nat) (l_q : q < N) (c_q : f q = .inr (3, [.ref (ad v), .int (nI k)]))  (hj : j < k) (hk : k < 2 ^ 31) : xMv l yX2_shorten wsX2_shorten rmX2_shorten [.ref (ad q), .int (nI j)] D ca N ad B tR tK f (fun u => u = va_up f q (.inr (3, [.ref (ad v), .int (nI j)]))) := by
  refine x_open (cc := cX2_shorten) (maxL := 2) (ret := none) (by decide) rfl (Nat.le_of_ble_eq_true rfl) ?_
  intro p e s m below meth c ls hx hb hml hown hts hr hlocks hnm hB hK hE hw hl
  have hown : s.vm.findClass RX2 = some m.cls := hown
  have hl : lv_has ls 2 [(0, .ref (ad q)), (1, .int (nI j))] := hl
  have hin_3 : ∀ w ∈ u_ws RX2 TX2 2, w ∈ wsX2_shorten := by decide +kernel
  have hf_15 := hts (.fieldLink RX2 15 "FixityRows$Octets" "size" "I") (by decide +kernel)
  have b_q := c_q
  refine lv_iload_n hx hb dX2_shorten_0 rfl (lv_at hl 1 rfl) ?_
  refine n_iflt (tgt := 17) hx hb dX2_shorten_1 (by decide) (by omega) ?_
  refine lv_iload_n hx hb dX2_shorten_4 rfl (lv_at hl 1 rfl) ?_
  refine lv_aload_n hx hb dX2_shorten_5 rfl (lv_at hl 0 rfl) ?_
  refine x_get (ci := 3) (C := RX2) (T := TX2) (n := 2) (ref := RX2) hx hb hts hin_3 hown hK hw q l_q c_q rfl 1 (by decide) hf_15 (fun _ h => h) rfl dX2_shorten_6 ?_
  refine n_icge (tgt := 17) hx hb dX2_shorten_9 (by decide) (by omega) (by omega) (fun c_9 => ?_) (fun c_9 => ?_)
  · omega
  · refine lv_aload_n hx hb dX2_shorten_12 rfl (lv_at hl 0 rfl) ?_
    refine lv_iload_n hx hb dX2_shorten_13 rfl (lv_at hl 1 rfl) ?_
    refine x_put (ci := 3) (C := RX2) (T := TX2) (n := 2) (ref := RX2) (fs' := [.ref (ad v), .int (nI j)]) hx hb hts hin_3 tyX2 tyX2_ok nmX2 hown hK dd hw q l_q c_q rfl 1 (by decide) hf_15 (fun _ h => h) rfl rfl rfl (Nat.le_of_ble_eq_true rfl) rfl dX2_shorten_14 (fun H locs hw => ?_)
    obtain ⟨f_1, ef_1⟩ : ∃ z, z = va_up f q (.inr (3, [.ref (ad v), .int (nI j)])) := ⟨_, rfl⟩
    have hw : xw D vwCl N ad B s.heap f_1 H locs := by rw [ef_1]; exact hw
    have c_q : f_1 q = .inr (3, [.ref (ad v), .int (nI j)]) := va_up_of ef_1
    exact x_vret hx hb hr hlocks hw (by simp only [ef_1]) dX2_shorten_17

set_option maxHeartbeats 4000000 in
set_option maxRecDepth 100000 in
/-- Octets.shorten, to no less -/
theorem k_X2_shorten_same (l : Launch) (D : va_G) (ca : Nat → ClassId) (N : Nat) (ad : Nat → Nat) (B tR tK : Nat) (f : Nat → va_E) (dd : xD N ad B) (q : Nat) (v : Nat) (k : Nat) (j : Nat) (l_q : q < N) (c_q : f q = .inr (3, [.ref (ad v), .int (nI k)]))  (hj : k ≤ j) (hk : j < 2 ^ 31) : xMv l yX2_shorten wsX2_shorten rmX2_shorten [.ref (ad q), .int (nI j)] D ca N ad B tR tK f (fun u => f = u) := by
  refine x_open (cc := cX2_shorten) (maxL := 2) (ret := none) (by decide) rfl (Nat.le_of_ble_eq_true rfl) ?_
  intro p e s m below meth c ls hx hb hml hown hts hr hlocks hnm hB hK hE hw hl
  have hown : s.vm.findClass RX2 = some m.cls := hown
  have hl : lv_has ls 2 [(0, .ref (ad q)), (1, .int (nI j))] := hl
  have hin_3 : ∀ w ∈ u_ws RX2 TX2 2, w ∈ wsX2_shorten := by decide +kernel
  have hf_15 := hts (.fieldLink RX2 15 "FixityRows$Octets" "size" "I") (by decide +kernel)
  have b_q := c_q
  refine lv_iload_n hx hb dX2_shorten_0 rfl (lv_at hl 1 rfl) ?_
  refine n_iflt (tgt := 17) hx hb dX2_shorten_1 (by decide) (by omega) ?_
  refine lv_iload_n hx hb dX2_shorten_4 rfl (lv_at hl 1 rfl) ?_
  refine lv_aload_n hx hb dX2_shorten_5 rfl (lv_at hl 0 rfl) ?_
  refine x_get (ci := 3) (C := RX2) (T := TX2) (n := 2) (ref := RX2) hx hb hts hin_3 hown hK hw q l_q c_q rfl 1 (by decide) hf_15 (fun _ h => h) rfl dX2_shorten_6 ?_
  refine n_icge (tgt := 17) hx hb dX2_shorten_9 (by decide) (by omega) (by omega) (fun c_9 => ?_) (fun c_9 => ?_)
  · exact x_vret hx hb hr hlocks hw rfl dX2_shorten_17
  · omega

set_option maxHeartbeats 4000000 in
set_option maxRecDepth 100000 in
/-- Octets.shorten, to nothing -/
theorem k_X2_shorten_zero (l : Launch) (D : va_G) (ca : Nat → ClassId) (N : Nat) (ad : Nat → Nat) (B tR tK : Nat) (f : Nat → va_E) (dd : xD N ad B) (q : Nat) (v : Nat) (k : Nat) (l_q : q < N) (c_q : f q = .inr (3, [.ref (ad v), .int (nI k)]))  (hk : k < 2 ^ 31) : xMv l yX2_shorten wsX2_shorten rmX2_shorten [.ref (ad q), .int (nI 0)] D ca N ad B tR tK f (fun u => u = va_up f q (.inr (3, [.ref (ad v), .int (nI 0)]))) := by
  refine x_open (cc := cX2_shorten) (maxL := 2) (ret := none) (by decide) rfl (Nat.le_of_ble_eq_true rfl) ?_
  intro p e s m below meth c ls hx hb hml hown hts hr hlocks hnm hB hK hE hw hl
  have hown : s.vm.findClass RX2 = some m.cls := hown
  have hl : lv_has ls 2 [(0, .ref (ad q)), (1, .int (nI 0))] := hl
  have hin_3 : ∀ w ∈ u_ws RX2 TX2 2, w ∈ wsX2_shorten := by decide +kernel
  have hf_15 := hts (.fieldLink RX2 15 "FixityRows$Octets" "size" "I") (by decide +kernel)
  have b_q := c_q
  refine lv_iload_n hx hb dX2_shorten_0 rfl (lv_at hl 1 rfl) ?_
  refine lv_if_lt (tgt := 17) hx hb dX2_shorten_1 (by decide) (fun h => absurd h (by decide)) (fun _ => ?_)
  refine lv_iload_n hx hb dX2_shorten_4 rfl (lv_at hl 1 rfl) ?_
  refine lv_aload_n hx hb dX2_shorten_5 rfl (lv_at hl 0 rfl) ?_
  refine x_get (ci := 3) (C := RX2) (T := TX2) (n := 2) (ref := RX2) hx hb hts hin_3 hown hK hw q l_q c_q rfl 1 (by decide) hf_15 (fun _ h => h) rfl dX2_shorten_6 ?_
  refine n_icge (tgt := 17) hx hb dX2_shorten_9 (by decide) (by omega) (by omega) (fun c_9 => ?_) (fun c_9 => ?_)
  · exact x_vret hx hb hr hlocks hw (by have ek : k = 0 := (by omega); subst ek; rw [← b_q, up_same]) dX2_shorten_17
  · refine lv_aload_n hx hb dX2_shorten_12 rfl (lv_at hl 0 rfl) ?_
    refine lv_iload_n hx hb dX2_shorten_13 rfl (lv_at hl 1 rfl) ?_
    refine x_put (ci := 3) (C := RX2) (T := TX2) (n := 2) (ref := RX2) (fs' := [.ref (ad v), .int (nI 0)]) hx hb hts hin_3 tyX2 tyX2_ok nmX2 hown hK dd hw q l_q c_q rfl 1 (by decide) hf_15 (fun _ h => h) rfl rfl rfl (Nat.le_of_ble_eq_true rfl) rfl dX2_shorten_14 (fun H locs hw => ?_)
    obtain ⟨f_1, ef_1⟩ : ∃ z, z = va_up f q (.inr (3, [.ref (ad v), .int (nI 0)])) := ⟨_, rfl⟩
    have hw : xw D vwCl N ad B s.heap f_1 H locs := by rw [ef_1]; exact hw
    have c_q : f_1 q = .inr (3, [.ref (ad v), .int (nI 0)]) := va_up_of ef_1
    exact x_vret hx hb hr hlocks hw (by simp only [ef_1]) dX2_shorten_17

abbrev rmX2_copyFrom : Room := { frames := 0, cells := 0, slots := 0, locals := 0 }

set_option maxHeartbeats 4000000 in
set_option maxRecDepth 100000 in
/-- Octets.copyFrom another -/
theorem k_X2_copyFrom (l : Launch) (D : va_G) (ca : Nat → ClassId) (N : Nat) (ad : Nat → Nat) (B tR tK : Nat) (f : Nat → va_E) (dd : xD N ad B) (q : Nat) (v : Nat) (k : Nat) (g : Nat → Int32) (o : Nat) (w : Nat) (j : Nat) (h : Nat → Int32) (l_q : q < N) (c_q : f q = .inr (3, [.ref (ad v), .int (nI k)])) (l_v : v < N) (c_v : f v = ai (ca 0) 200 g) (l_o : o < N) (c_o : f o = .inr (3, [.ref (ad w), .int (nI j)])) (l_w : w < N) (c_w : f w = ai (ca 0) 200 h)  (n1 : q ≠ o) (n2 : v ≠ w) (hj : j ≤ 200) : xMv l yX2_copyFrom wsX2_copyFrom rmX2_copyFrom [.ref (ad q), .ref (ad o)] D ca N ad B tR tK f (fun u => u = va_up (va_up f q (.inr (3, [.ref (ad v), .int (nI j)]))) v (ai (ca 0) 200 (cpyTo g h j))) := by
  refine x_open (cc := cX2_copyFrom) (maxL := 3) (ret := none) (by decide) rfl (Nat.le_of_ble_eq_true rfl) ?_
  intro p e s m below meth c ls hx hb hml hown hts hr hlocks hnm hB hK hE hw hl
  have hown : s.vm.findClass RX2 = some m.cls := hown
  have hl : lv_has ls 3 [(0, .ref (ad q)), (1, .ref (ad o))] := hl
  have hin_3 : ∀ w ∈ u_ws RX2 TX2 2, w ∈ wsX2_copyFrom := by decide +kernel
  have hf_15 := hts (.fieldLink RX2 15 "FixityRows$Octets" "size" "I") (by decide +kernel)
  have hf_9 := hts (.fieldLink RX2 9 "FixityRows$Octets" "values" "[I") (by decide +kernel)
  have b_q := c_q
  have b_v := c_v
  have b_o := c_o
  have b_w := c_w
  have P_10 : ∀ (n_10 : Nat) (i : Nat) (H : Heap) (locs : List Loc) (ls : Array Slot), j + 1 ≤ i + n_10 → (i ≤ j) → xw D vwCl N ad B s.heap (va_up (va_up f q (.inr (3, [.ref (ad v), .int (nI j)]))) v (ai (ca 0) 200 (cpyTo g h i))) H locs → lv_has ls 3 [(0, .ref (ad q)), (1, .ref (ad o)), (2, .int (nI i))] → W p l e rmX2_copyFrom s m ([.ref (ad q), .ref (ad o)] : List Value).toArray below meth c H locs 0 0 (MQ below (xQv (fun u => u = va_up (va_up f q (.inr (3, [.ref (ad v), .int (nI j)]))) v (ai (ca 0) 200 (cpyTo g h j))) D N ad B) ([.ref (ad q), .ref (ad o)] : List Value).toArray s 0 0 (xA B)) (F0 m 10 ls []) := by
    intro n_10
    induction n_10 with
    | zero =>
      intro i H locs ls hm_10 hi hw hl
      exact absurd hm_10 (by omega)
    | succ n_10 ih_10 =>
      intro i H locs ls hm_10 hi hw hl
      have c_q := b_q
      have c_v := b_v
      have c_o := b_o
      have c_w := b_w
      obtain ⟨f_1, ef_1⟩ : ∃ z, z = va_up (va_up f q (.inr (3, [.ref (ad v), .int (nI j)]))) v (ai (ca 0) 200 (cpyTo g h i)) := ⟨_, rfl⟩
      have hw : xw D vwCl N ad B s.heap f_1 H locs := by rw [ef_1]; exact hw
      have c_q : f_1 q = .inr (3, [.ref (ad v), .int (nI j)]) := by rw [ef_1, va_up_ne _ _ (kd_ne' b_v b_q), va_up_self]
      have c_v : f_1 v = ai (ca 0) 200 (cpyTo g h i) := by rw [ef_1, va_up_self]
      refine lv_iload_n hx hb dX2_copyFrom_10 rfl (lv_at hl 2 rfl) ?_
      refine lv_aload_n hx hb dX2_copyFrom_11 rfl (lv_at hl 0 rfl) ?_
      refine x_get (ci := 3) (C := RX2) (T := TX2) (n := 2) (ref := RX2) hx hb hts hin_3 hown hK hw q l_q c_q rfl 1 (by decide) hf_15 (fun _ h => h) rfl dX2_copyFrom_12 ?_
      refine n_icge (tgt := 36) hx hb dX2_copyFrom_15 (by decide) (by omega) (by omega) (fun c_15 => ?_) (fun c_15 => ?_)
      · exact x_vret hx hb hr hlocks hw (by have ei : i = j := (by omega); subst ei; simp only [ef_1]) dX2_copyFrom_36
      · refine lv_aload_n hx hb dX2_copyFrom_18 rfl (lv_at hl 0 rfl) ?_
        refine x_get (ci := 3) (C := RX2) (T := TX2) (n := 2) (ref := RX2) hx hb hts hin_3 hown hK hw q l_q c_q rfl 0 (by decide) hf_9 (fun _ h => h) rfl dX2_copyFrom_19 ?_
        refine lv_iload_n hx hb dX2_copyFrom_22 rfl (lv_at hl 2 rfl) ?_
        refine lv_aload_n hx hb dX2_copyFrom_23 rfl (lv_at hl 1 rfl) ?_
        have c_o : f_1 o = .inr (3, [.ref (ad w), .int (nI j)]) := by rw [ef_1, va_up_ne _ _ (kd_ne' b_v b_o), va_up_ne _ _ (by omega)]; exact c_o
        refine x_get (ci := 3) (C := RX2) (T := TX2) (n := 2) (ref := RX2) hx hb hts hin_3 hown hK hw o l_o c_o rfl 0 (by decide) hf_9 (fun _ h => h) rfl dX2_copyFrom_24 ?_
        refine lv_iload_n hx hb dX2_copyFrom_27 rfl (lv_at hl 2 rfl) ?_
        have c_w : f_1 w = ai (ca 0) 200 h := by rw [ef_1, va_up_ne _ _ (by omega), va_up_ne _ _ (kd_ne b_q b_w)]; exact c_w
        refine x_iald (j := i) hx hb hK hw w 0 l_w c_w rfl rfl (by omega) (by decide) dX2_copyFrom_28 ?_
        refine lv_topi (fun x_2 ex_2 => ?_)
        refine x_iast (j := i) hx hb hK dd hw v 0 l_v c_v rfl rfl (by omega) (by decide) dX2_copyFrom_29 (fun H locs hw => ?_)
        obtain ⟨f_3, ef_3⟩ : ∃ z, z = va_up f_1 v (ai (ca 0) 200 (upd (cpyTo g h i) i x_2)) := ⟨_, rfl⟩
        have hw : xw D vwCl N ad B s.heap f_3 H locs := by rw [ef_3]; exact hw
        have c_v : f_3 v = ai (ca 0) 200 (upd (cpyTo g h i) i x_2) := va_up_of ef_3
        refine lv_iinc (v := nI (i + 1)) (lv' := [(2, .int (nI (i + 1))), (0, .ref (ad q)), (1, .ref (ad o))]) hx hb dX2_copyFrom_30 hl (k := 2) rfl (by rw [show Int32.ofInt 1 = nI 1 from rfl]; exact nI_add _ _) (by decide) rfl (fun ls hl => ?_)
        refine lv_goto (tgt := 10) hx hb dX2_copyFrom_33 (by decide) ?_
        have hw : xw D vwCl N ad B s.heap (va_up (va_up f q (.inr (3, [.ref (ad v), .int (nI j)]))) v (ai (ca 0) 200 (cpyTo g h (i + 1)))) H locs := by
          have ez : f_3 = va_up (va_up f q (.inr (3, [.ref (ad v), .int (nI j)]))) v (ai (ca 0) 200 (cpyTo g h (i + 1))) := by simp only [ef_3, ex_2, ef_1, up_aa, cp_step, cp_0, up_same]
          rw [← ez]; exact hw
        exact ih_10 (i + 1) _ _ _ (by omega) (by omega) hw (lv_sub hl [1, 2, 0] rfl)
  refine lv_aload_n hx hb dX2_copyFrom_0 rfl (lv_at hl 0 rfl) ?_
  refine lv_aload_n hx hb dX2_copyFrom_1 rfl (lv_at hl 1 rfl) ?_
  refine x_get (ci := 3) (C := RX2) (T := TX2) (n := 2) (ref := RX2) hx hb hts hin_3 hown hK hw o l_o c_o rfl 1 (by decide) hf_15 (fun _ h => h) rfl dX2_copyFrom_2 ?_
  refine x_put (ci := 3) (C := RX2) (T := TX2) (n := 2) (ref := RX2) (fs' := [.ref (ad v), .int (nI j)]) hx hb hts hin_3 tyX2 tyX2_ok nmX2 hown hK dd hw q l_q c_q rfl 1 (by decide) hf_15 (fun _ h => h) rfl rfl rfl (Nat.le_of_ble_eq_true rfl) rfl dX2_copyFrom_5 (fun H locs hw => ?_)
  obtain ⟨f_4, ef_4⟩ : ∃ z, z = va_up f q (.inr (3, [.ref (ad v), .int (nI j)])) := ⟨_, rfl⟩
  have hw : xw D vwCl N ad B s.heap f_4 H locs := by rw [ef_4]; exact hw
  have c_q : f_4 q = .inr (3, [.ref (ad v), .int (nI j)]) := va_up_of ef_4
  refine lv_iconst (v := nI 0) hx hb dX2_copyFrom_8 (by decide) ?_
  refine lv_istore_n (lv' := [(2, .int (nI 0)), (0, .ref (ad q)), (1, .ref (ad o))]) hx hb dX2_copyFrom_9 rfl hl (by decide) rfl (fun ls hl => ?_)
  have e0 : va_up f v (ai (ca 0) 200 g) = f := by rw [← b_v, up_same]
  have hw : xw D vwCl N ad B s.heap (va_up (va_up f q (.inr (3, [.ref (ad v), .int (nI j)]))) v (ai (ca 0) 200 (cpyTo g h 0))) H locs := by
    have ez : f_4 = va_up (va_up f q (.inr (3, [.ref (ad v), .int (nI j)]))) v (ai (ca 0) 200 (cpyTo g h 0)) := by simp only [ef_4, cp_0, up_swap _ _ _ (kd_ne b_q b_v).symm, e0]
    rw [← ez]; exact hw
  exact P_10 ((j + 1)) 0 _ _ _ (by omega) (by omega) hw (lv_sub hl [1, 2, 0] rfl)
