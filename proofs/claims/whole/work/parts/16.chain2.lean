theorem not_all8 {a b : Nat → Int32} (h : ¬ ∀ j, j < 8 → a j = b j) : ∃ j, j < 8 ∧ a j ≠ b j := Classical.byContradiction fun z => h fun j hj => Classical.byContradiction fun q => z ⟨j, hj, q⟩

abbrev rmX3_append : Room := { frames := 4, cells := 0, slots := 0, locals := 98 }

set_option maxHeartbeats 4000000 in
set_option maxRecDepth 100000 in
theorem k_X3_append_in (l : Launch) (D : va_G) (ca : Nat → ClassId) (N : Nat) (ad : Nat → Nat) (B tR tK : Nat) (f : Nat → va_E) (dd : xD N ad B) (rc : Nat) (ce : Nat → Int32) (cw : Nat → Int32) (sn : Nat) (sv : Nat → Int32) (kn : Nat → Int32) (fn : Nat → Int32) (dn : Nat → Int32) (M : Nat → Nat → Int32) (kd : Int32) (fl : Int32) (dy : Int32) (c_90 : f 90 = .inr (4, [.ref (ad 91), .ref (ad 94), .ref (ad 96), .ref (ad 97), .ref (ad 98), .ref (ad 99), .int (nI rc)])) (c_91 : f 91 = .inr (2, [.ref (ad 92), .ref (ad 93)])) (c_92 : f 92 = ai (ca 0) 8 ce) (c_93 : f 93 = ai (ca 0) 64 cw) (c_94 : f 94 = .inr (3, [.ref (ad 95), .int (nI sn)])) (c_95 : f 95 = ai (ca 0) 200 sv) (c_96 : f 96 = ai (ca 0) 200 kn) (c_97 : f 97 = ai (ca 0) 200 fn) (c_98 : f 98 = ai (ca 0) 200 dn) (c_99 : f 99 = aq (ca 4) 200 (fun i => some (ad (100 + i)))) (F_M : ∀ i, i < 200 → f (100 + i) = ai (ca 0) 8 (M i)) (hN : 302 ≤ N) (hrc : rc < 200) (hsn : sn ≤ 200) : xMv l yX3_append wsX3_append rmX3_append [.ref (ad 90), .int kd, .int fl, .int dy] D ca N ad B tR tK f (fun u => ∃ sv1 : Nat → Int32, ∃ w1 : Nat → Int32, ∃ e1 : Nat → Int32, u = va_up (va_up (va_up (va_up (va_up (va_up (va_up (va_up (va_up f 96 (ai (ca 0) 200 (upd kn rc kd))) 97 (ai (ca 0) 200 (upd fn rc fl))) 98 (ai (ca 0) 200 (upd dn rc dy))) 90 (.inr (4, [.ref (ad 91), .ref (ad 94), .ref (ad 96), .ref (ad 97), .ref (ad 98), .ref (ad 99), .int (nI (rc + 1))]))) 95 (ai (ca 0) 200 sv1)) 94 (.inr (3, [.ref (ad 95), .int (nI 44)]))) 93 (ai (ca 0) 64 w1)) 92 (ai (ca 0) 8 e1)) (100 + rc) (ai (ca 0) 8 (rowD (prevD M rc) kd fl dy))) := by
  refine x_open (cc := cX3_append) (maxL := 5) (ret := none) (by decide) rfl (Nat.le_of_ble_eq_true rfl) ?_
  intro p e s m below meth c ls hx hb hml hown hts hr hlocks hnm hB hK hE hw hl
  have hown : s.vm.findClass RX3 = some m.cls := hown
  have hl : lv_has ls 5 [(0, .ref (ad 90)), (1, .int kd), (2, .int fl), (3, .int dy)] := hl
  have hin_4 : ∀ w ∈ u_ws RX3 TX3 7, w ∈ wsX3_append := by decide +kernel
  have hf_40 := hts (.fieldLink RX3 40 "FixityRows$RowChain" "count" "I") (by decide +kernel)
  have hf_25 := hts (.fieldLink RX3 25 "FixityRows$RowChain" "kinds" "[I") (by decide +kernel)
  have hf_29 := hts (.fieldLink RX3 29 "FixityRows$RowChain" "fileNumbers" "[I") (by decide +kernel)
  have hf_32 := hts (.fieldLink RX3 32 "FixityRows$RowChain" "days" "[I") (by decide +kernel)
  have hf_12 := hts (.fieldLink RX3 12 "FixityRows$RowChain" "longDigest" "LFixityRows$LongDigest;") (by decide +kernel)
  have hf_37 := hts (.fieldLink RX3 37 "FixityRows$RowChain" "digests" "[[I") (by decide +kernel)
  have b_90 := c_90
  have b_91 := c_91
  have b_92 := c_92
  have b_93 := c_93
  have b_94 := c_94
  have b_95 := c_95
  have b_96 := c_96
  have b_97 := c_97
  have b_98 := c_98
  have b_99 := c_99
  refine lv_aload_n hx hb dX3_append_0 rfl (lv_at hl 0 rfl) ?_
  refine x_get (ci := 4) (C := RX3) (T := TX3) (n := 7) (ref := RX3) hx hb hts hin_4 hown hK hw 90 (by omega) c_90 rfl 6 (by decide) hf_40 (fun _ h => h) rfl dX3_append_1 ?_
  refine lv_sipush (v := nI 200) hx hb dX3_append_4 (by decide) ?_
  refine n_iclt (tgt := 11) hx hb dX3_append_7 (by decide) (by omega) (by omega) (fun c_7 => ?_) (fun c_7 => ?_)
  · refine lv_aload_n hx hb dX3_append_11 rfl (lv_at hl 0 rfl) ?_
    refine x_get (ci := 4) (C := RX3) (T := TX3) (n := 7) (ref := RX3) hx hb hts hin_4 hown hK hw 90 (by omega) c_90 rfl 6 (by decide) hf_40 (fun _ h => h) rfl dX3_append_12 ?_
    refine lv_istore (lv' := [(4, .int (nI rc)), (0, .ref (ad 90)), (1, .int kd), (2, .int fl), (3, .int dy)]) hx hb dX3_append_15 hl (by decide) rfl (fun ls hl => ?_)
    refine lv_aload_n hx hb dX3_append_17 rfl (lv_at hl 1 rfl) ?_
    refine x_get (ci := 4) (C := RX3) (T := TX3) (n := 7) (ref := RX3) hx hb hts hin_4 hown hK hw 90 (by omega) c_90 rfl 2 (by decide) hf_25 (fun _ h => h) rfl dX3_append_18 ?_
    refine lv_iload hx hb dX3_append_21 (lv_at hl 0 rfl) ?_
    refine lv_iload_n hx hb dX3_append_23 rfl (lv_at hl 2 rfl) ?_
    refine x_iast (j := rc) hx hb hK dd hw 96 0 (by omega) c_96 rfl rfl (by omega) (by decide) dX3_append_24 (fun H locs hw => ?_)
    obtain ⟨f_1, ef_1⟩ : ∃ z, z = va_up f 96 (ai (ca 0) 200 (upd kn rc kd)) := ⟨_, rfl⟩
    have hw : xw D vwCl N ad B s.heap f_1 H locs := by rw [ef_1]; exact hw
    have c_96 : f_1 96 = ai (ca 0) 200 (upd kn rc kd) := va_up_of ef_1
    refine lv_aload_n hx hb dX3_append_25 rfl (lv_at hl 1 rfl) ?_
    have c_90 : f_1 90 = .inr (4, [.ref (ad 91), .ref (ad 94), .ref (ad 96), .ref (ad 97), .ref (ad 98), .ref (ad 99), .int (nI rc)]) := by rw [ef_1, va_up_ne _ _ (by decide)]; exact c_90
    refine x_get (ci := 4) (C := RX3) (T := TX3) (n := 7) (ref := RX3) hx hb hts hin_4 hown hK hw 90 (by omega) c_90 rfl 3 (by decide) hf_29 (fun _ h => h) rfl dX3_append_26 ?_
    refine lv_iload hx hb dX3_append_29 (lv_at hl 0 rfl) ?_
    refine lv_iload_n hx hb dX3_append_31 rfl (lv_at hl 3 rfl) ?_
    have c_97 : f_1 97 = ai (ca 0) 200 fn := by rw [ef_1, va_up_ne _ _ (by decide)]; exact c_97
    refine x_iast (j := rc) hx hb hK dd hw 97 0 (by omega) c_97 rfl rfl (by omega) (by decide) dX3_append_32 (fun H locs hw => ?_)
    obtain ⟨f_2, ef_2⟩ : ∃ z, z = va_up f_1 97 (ai (ca 0) 200 (upd fn rc fl)) := ⟨_, rfl⟩
    have hw : xw D vwCl N ad B s.heap f_2 H locs := by rw [ef_2]; exact hw
    have c_97 : f_2 97 = ai (ca 0) 200 (upd fn rc fl) := va_up_of ef_2
    refine lv_aload_n hx hb dX3_append_33 rfl (lv_at hl 1 rfl) ?_
    have c_90 : f_2 90 = .inr (4, [.ref (ad 91), .ref (ad 94), .ref (ad 96), .ref (ad 97), .ref (ad 98), .ref (ad 99), .int (nI rc)]) := by rw [ef_2, va_up_ne _ _ (by decide)]; exact c_90
    refine x_get (ci := 4) (C := RX3) (T := TX3) (n := 7) (ref := RX3) hx hb hts hin_4 hown hK hw 90 (by omega) c_90 rfl 4 (by decide) hf_32 (fun _ h => h) rfl dX3_append_34 ?_
    refine lv_iload hx hb dX3_append_37 (lv_at hl 0 rfl) ?_
    refine lv_iload_n hx hb dX3_append_39 rfl (lv_at hl 4 rfl) ?_
    have c_98 : f_2 98 = ai (ca 0) 200 dn := by rw [ef_2, va_up_ne _ _ (by decide), ef_1, va_up_ne _ _ (by decide)]; exact c_98
    refine x_iast (j := rc) hx hb hK dd hw 98 0 (by omega) c_98 rfl rfl (by omega) (by decide) dX3_append_40 (fun H locs hw => ?_)
    obtain ⟨f_3, ef_3⟩ : ∃ z, z = va_up f_2 98 (ai (ca 0) 200 (upd dn rc dy)) := ⟨_, rfl⟩
    have hw : xw D vwCl N ad B s.heap f_3 H locs := by rw [ef_3]; exact hw
    have c_98 : f_3 98 = ai (ca 0) 200 (upd dn rc dy) := va_up_of ef_3
    refine lv_aload_n hx hb dX3_append_41 rfl (lv_at hl 1 rfl) ?_
    refine lv_dup hx hb dX3_append_42 rfl ?_
    have c_90 : f_3 90 = .inr (4, [.ref (ad 91), .ref (ad 94), .ref (ad 96), .ref (ad 97), .ref (ad 98), .ref (ad 99), .int (nI rc)]) := by rw [ef_3, va_up_ne _ _ (by decide)]; exact c_90
    refine x_get (ci := 4) (C := RX3) (T := TX3) (n := 7) (ref := RX3) hx hb hts hin_4 hown hK hw 90 (by omega) c_90 rfl 6 (by decide) hf_40 (fun _ h => h) rfl dX3_append_43 ?_
    refine lv_iconst (v := nI 1) hx hb dX3_append_46 (by decide) ?_
    refine n_iadd hx hb dX3_append_47 ?_
    refine x_put (ci := 4) (C := RX3) (T := TX3) (n := 7) (ref := RX3) (fs' := [.ref (ad 91), .ref (ad 94), .ref (ad 96), .ref (ad 97), .ref (ad 98), .ref (ad 99), .int (nI (rc + 1))]) hx hb hts hin_4 tyX3 tyX3_ok nmX3 hown hK dd hw 90 (by omega) c_90 rfl 6 (by decide) hf_40 (fun _ h => h) rfl rfl rfl (Nat.le_of_ble_eq_true rfl) rfl dX3_append_48 (fun H locs hw => ?_)
    obtain ⟨f_4, ef_4⟩ : ∃ z, z = va_up f_3 90 (.inr (4, [.ref (ad 91), .ref (ad 94), .ref (ad 96), .ref (ad 97), .ref (ad 98), .ref (ad 99), .int (nI (rc + 1))])) := ⟨_, rfl⟩
    have hw : xw D vwCl N ad B s.heap f_4 H locs := by rw [ef_4]; exact hw
    have c_90 : f_4 90 = .inr (4, [.ref (ad 91), .ref (ad 94), .ref (ad 96), .ref (ad 97), .ref (ad 98), .ref (ad 99), .int (nI (rc + 1))]) := va_up_of ef_4
    refine lv_aload_n hx hb dX3_append_51 rfl (lv_at hl 1 rfl) ?_
    refine lv_iload hx hb dX3_append_52 (lv_at hl 0 rfl) ?_
    have c_91 : f_4 91 = .inr (2, [.ref (ad 92), .ref (ad 93)]) := by rw [ef_4, va_up_ne _ _ (by decide), ef_3, va_up_ne _ _ (by decide), ef_2, va_up_ne _ _ (by decide), ef_1, va_up_ne _ _ (by decide)]; exact c_91
    have c_92 : f_4 92 = ai (ca 0) 8 ce := by rw [ef_4, va_up_ne _ _ (by decide), ef_3, va_up_ne _ _ (by decide), ef_2, va_up_ne _ _ (by decide), ef_1, va_up_ne _ _ (by decide)]; exact c_92
    have c_93 : f_4 93 = ai (ca 0) 64 cw := by rw [ef_4, va_up_ne _ _ (by decide), ef_3, va_up_ne _ _ (by decide), ef_2, va_up_ne _ _ (by decide), ef_1, va_up_ne _ _ (by decide)]; exact c_93
    have c_94 : f_4 94 = .inr (3, [.ref (ad 95), .int (nI sn)]) := by rw [ef_4, va_up_ne _ _ (by decide), ef_3, va_up_ne _ _ (by decide), ef_2, va_up_ne _ _ (by decide), ef_1, va_up_ne _ _ (by decide)]; exact c_94
    have c_95 : f_4 95 = ai (ca 0) 200 sv := by rw [ef_4, va_up_ne _ _ (by decide), ef_3, va_up_ne _ _ (by decide), ef_2, va_up_ne _ _ (by decide), ef_1, va_up_ne _ _ (by decide)]; exact c_95
    have c_96 : f_4 96 = ai (ca 0) 200 (upd kn rc kd) := by rw [ef_4, va_up_ne _ _ (by decide), ef_3, va_up_ne _ _ (by decide), ef_2, va_up_ne _ _ (by decide)]; exact c_96
    have c_97 : f_4 97 = ai (ca 0) 200 (upd fn rc fl) := by rw [ef_4, va_up_ne _ _ (by decide), ef_3, va_up_ne _ _ (by decide)]; exact c_97
    have c_98 : f_4 98 = ai (ca 0) 200 (upd dn rc dy) := by rw [ef_4, va_up_ne _ _ (by decide)]; exact c_98
    have c_99 : f_4 99 = aq (ca 4) 200 (fun i => some (ad (100 + i))) := by rw [ef_4, va_up_ne _ _ (by decide), ef_3, va_up_ne _ _ (by decide), ef_2, va_up_ne _ _ (by decide), ef_1, va_up_ne _ _ (by decide)]; exact c_99
    refine x_Vv (q := 90) (As := [.int (nI rc)]) (rest := []) ⟨hx, hb, hml, hown, hts⟩ (k_X3_computeDigestOf l D ca N ad B tR tK f_4 dd (rc + 1) ce cw sn sv (upd kn rc kd) (upd fn rc fl) (upd dn rc dy) M rc c_90 c_91 c_92 c_93 c_94 c_95 c_96 c_97 c_98 c_99 (fun i hi => by rw [ef_4, va_up_ne _ _ (by omega), ef_3, va_up_ne _ _ (by omega), ef_2, va_up_ne _ _ (by omega), ef_1, va_up_ne _ _ (by omega)]; exact F_M i hi) (by omega) (by omega) (by omega) (by omega)) (cwV 1 hts gX3_append_X3_computeDigestOf rfl rfl rfl (by decide +kernel) ⟨Nat.le_of_ble_eq_true rfl, Nat.le_of_ble_eq_true rfl⟩) hK hE hB hw (by omega) c_90 rfl rfl rfl rfl hl.1 (Nat.le_of_ble_eq_true rfl) ⟨Nat.zero_le _, Nat.zero_le _⟩ dX3_append_54 (fun f_5 H locs hp hw => ?_)
    obtain ⟨sv1_7, w1_8, e1_9, hq_10, eu⟩ := hp
    have ef_5 : f_5 = va_up (va_up (va_up (va_up f_4 95 (ai (ca 0) 200 sv1_7)) 94 (.inr (3, [.ref (ad 95), .int (nI 44)]))) 93 (ai (ca 0) 64 w1_8)) 92 (ai (ca 0) 8 e1_9) := eu
    have c_95 : f_5 95 = ai (ca 0) 200 sv1_7 := by rw [ef_5, va_up_ne _ _ (by decide), va_up_ne _ _ (by decide), va_up_ne _ _ (by decide), va_up_self]
    have c_94 : f_5 94 = .inr (3, [.ref (ad 95), .int (nI 44)]) := by rw [ef_5, va_up_ne _ _ (by decide), va_up_ne _ _ (by decide), va_up_self]
    have c_93 : f_5 93 = ai (ca 0) 64 w1_8 := by rw [ef_5, va_up_ne _ _ (by decide), va_up_self]
    have c_92 : f_5 92 = ai (ca 0) 8 e1_9 := by rw [ef_5, va_up_self]
    refine lv_aload_n hx hb dX3_append_57 rfl (lv_at hl 1 rfl) ?_
    have c_90 : f_5 90 = .inr (4, [.ref (ad 91), .ref (ad 94), .ref (ad 96), .ref (ad 97), .ref (ad 98), .ref (ad 99), .int (nI (rc + 1))]) := by rw [ef_5, va_up_ne _ _ (by decide), va_up_ne _ _ (by decide), va_up_ne _ _ (by decide), va_up_ne _ _ (by decide)]; exact c_90
    refine x_get (ci := 4) (C := RX3) (T := TX3) (n := 7) (ref := RX3) hx hb hts hin_4 hown hK hw 90 (by omega) c_90 rfl 0 (by decide) hf_12 (fun _ h => h) rfl dX3_append_58 ?_
    refine lv_aload_n hx hb dX3_append_61 rfl (lv_at hl 1 rfl) ?_
    refine x_get (ci := 4) (C := RX3) (T := TX3) (n := 7) (ref := RX3) hx hb hts hin_4 hown hK hw 90 (by omega) c_90 rfl 5 (by decide) hf_37 (fun _ h => h) rfl dX3_append_62 ?_
    refine lv_iload hx hb dX3_append_65 (lv_at hl 0 rfl) ?_
    have c_99 : f_5 99 = aq (ca 4) 200 (fun i => some (ad (100 + i))) := by rw [ef_5, va_up_ne _ _ (by decide), va_up_ne _ _ (by decide), va_up_ne _ _ (by decide), va_up_ne _ _ (by decide)]; exact c_99
    refine x_aaldA (j := rc) (a := ad (100 + rc)) hx hb hK hw 99 4 (by omega) c_99 rfl rfl (by omega) (by decide) rfl dX3_append_67 ?_
    have c_91 : f_5 91 = .inr (2, [.ref (ad 92), .ref (ad 93)]) := by rw [ef_5, va_up_ne _ _ (by decide), va_up_ne _ _ (by decide), va_up_ne _ _ (by decide), va_up_ne _ _ (by decide)]; exact c_91
    have c_100_rc : f_5 (100 + rc) = ai (ca 0) 8 (M rc) := by rw [ef_5, va_up_ne _ _ (by omega), va_up_ne _ _ (by omega), va_up_ne _ _ (by omega), va_up_ne _ _ (by omega), ef_4, va_up_ne _ _ (by omega), ef_3, va_up_ne _ _ (by omega), ef_2, va_up_ne _ _ (by omega), ef_1, va_up_ne _ _ (by omega)]; exact (F_M rc (by omega))
    refine x_Vv (q := 91) (As := [.ref (ad (100 + rc))]) (rest := []) ⟨hx, hb, hml, hown, hts⟩ (k_X1_copyTo l D ca N ad B tR tK f_5 dd 91 92 93 e1_9 (100 + rc) (M rc) (by omega) c_91 (by omega) c_92 (by omega) c_100_rc  (by omega)) (cwV 1 hts gX3_append_X1_copyTo rfl rfl rfl (by decide +kernel) ⟨Nat.le_of_ble_eq_true rfl, Nat.le_of_ble_eq_true rfl⟩) hK hE hB hw (by omega) c_91 rfl rfl rfl rfl hl.1 (Nat.le_of_ble_eq_true rfl) ⟨Nat.zero_le _, Nat.zero_le _⟩ dX3_append_68 (fun f_11 H locs hp hw => ?_)
    have eu := hp
    have ef_11 : f_11 = va_up f_5 (100 + rc) (ai (ca 0) 8 (cpyTo (M rc) e1_9 8)) := eu
    have c_100_rc : f_11 (100 + rc) = ai (ca 0) 8 (cpyTo (M rc) e1_9 8) := by rw [ef_11, va_up_self]
    obtain ⟨f_13, ef_13⟩ : ∃ z, z = va_up f_5 (100 + rc) (ai (ca 0) 8 (rowD (prevD M rc) kd fl dy)) := ⟨_, rfl⟩
    have hw : xw D vwCl N ad B s.heap f_13 H locs := by rw [ef_13]; exact xw.arr (by rw [← ef_11]; exact hw) (fun j hj => by rw [cp_in hj, hq_10 j hj, pk_us, pk_us, pk_us])
    have c_100_rc : f_13 (100 + rc) = ai (ca 0) 8 (rowD (prevD M rc) kd fl dy) := va_up_of ef_13
    exact x_vret hx hb hr hlocks hw ⟨sv1_7, w1_8, e1_9, (by simp only [ef_13, ef_5, ef_4, ef_3, ef_2, ef_1])⟩ dX3_append_71
  · omega

set_option maxHeartbeats 4000000 in
set_option maxRecDepth 100000 in
theorem k_X3_append_full (l : Launch) (D : va_G) (ca : Nat → ClassId) (N : Nat) (ad : Nat → Nat) (B tR tK : Nat) (f : Nat → va_E) (dd : xD N ad B) (rc : Nat) (kd : Int32) (fl : Int32) (dy : Int32) (c_90 : f 90 = .inr (4, [.ref (ad 91), .ref (ad 94), .ref (ad 96), .ref (ad 97), .ref (ad 98), .ref (ad 99), .int (nI rc)]))  (hN : 302 ≤ N) (hrc : rc = 200) : xMv l yX3_append wsX3_append rmX3_append [.ref (ad 90), .int kd, .int fl, .int dy] D ca N ad B tR tK f (fun u => f = u) := by
  refine x_open (cc := cX3_append) (maxL := 5) (ret := none) (by decide) rfl (Nat.le_of_ble_eq_true rfl) ?_
  intro p e s m below meth c ls hx hb hml hown hts hr hlocks hnm hB hK hE hw hl
  have hown : s.vm.findClass RX3 = some m.cls := hown
  have hl : lv_has ls 5 [(0, .ref (ad 90)), (1, .int kd), (2, .int fl), (3, .int dy)] := hl
  have hin_4 : ∀ w ∈ u_ws RX3 TX3 7, w ∈ wsX3_append := by decide +kernel
  have hf_40 := hts (.fieldLink RX3 40 "FixityRows$RowChain" "count" "I") (by decide +kernel)
  have b_90 := c_90
  refine lv_aload_n hx hb dX3_append_0 rfl (lv_at hl 0 rfl) ?_
  refine x_get (ci := 4) (C := RX3) (T := TX3) (n := 7) (ref := RX3) hx hb hts hin_4 hown hK hw 90 (by omega) c_90 rfl 6 (by decide) hf_40 (fun _ h => h) rfl dX3_append_1 ?_
  refine lv_sipush (v := nI 200) hx hb dX3_append_4 (by decide) ?_
  refine n_iclt (tgt := 11) hx hb dX3_append_7 (by decide) (by omega) (by omega) (fun c_7 => ?_) (fun c_7 => ?_)
  · omega
  · exact x_vret hx hb hr hlocks hw rfl dX3_append_10

abbrev rmX3_firstBroken : Room := { frames := 4, cells := 0, slots := 0, locals := 98 }

theorem up_4 (f : Nat → va_E) (a b c d a' b' c' d' : va_E) : va_up (va_up (va_up (va_up (va_up (va_up (va_up (va_up f 95 a) 94 b) 93 c) 92 d) 95 a') 94 b') 93 c') 92 d' = va_up (va_up (va_up (va_up f 95 a') 94 b') 93 c') 92 d' := by
  funext j
  simp only [va_up]
  by_cases h1 : j = 92
  · simp [h1]
  · by_cases h2 : j = 93
    · simp [h2]
    · by_cases h3 : j = 94
      · simp [h3]
      · by_cases h4 : j = 95
        · simp [h4]
        · simp [h1, h2, h3, h4]

set_option maxHeartbeats 4000000 in
set_option maxRecDepth 100000 in
theorem k_X3_firstBroken_none (l : Launch) (D : va_G) (ca : Nat → ClassId) (N : Nat) (ad : Nat → Nat) (B tR tK : Nat) (f : Nat → va_E) (dd : xD N ad B) (rc : Nat) (ce : Nat → Int32) (cw : Nat → Int32) (sn : Nat) (sv : Nat → Int32) (kn : Nat → Int32) (fn : Nat → Int32) (dn : Nat → Int32) (M : Nat → Nat → Int32) (c_90 : f 90 = .inr (4, [.ref (ad 91), .ref (ad 94), .ref (ad 96), .ref (ad 97), .ref (ad 98), .ref (ad 99), .int (nI rc)])) (c_91 : f 91 = .inr (2, [.ref (ad 92), .ref (ad 93)])) (c_92 : f 92 = ai (ca 0) 8 ce) (c_93 : f 93 = ai (ca 0) 64 cw) (c_94 : f 94 = .inr (3, [.ref (ad 95), .int (nI sn)])) (c_95 : f 95 = ai (ca 0) 200 sv) (c_96 : f 96 = ai (ca 0) 200 kn) (c_97 : f 97 = ai (ca 0) 200 fn) (c_98 : f 98 = ai (ca 0) 200 dn) (c_99 : f 99 = aq (ca 4) 200 (fun i => some (ad (100 + i)))) (F_M : ∀ i, i < 200 → f (100 + i) = ai (ca 0) 8 (M i)) (hN : 302 ≤ N) (hrc : rc ≤ 200) (hsn : sn ≤ 200) (hall : ∀ i, i < rc → ∀ j, j < 8 → M i j = rowD (prevD M i) (kn i) (fn i) (dn i) j) : xMi l yX3_firstBroken wsX3_firstBroken rmX3_firstBroken [.ref (ad 90)] D ca N ad B tR tK f (fun r u => ∃ s1 : Nat → Int32, ∃ n1 : Nat, ∃ w1 : Nat → Int32, ∃ e1 : Nat → Int32, n1 ≤ 200 ∧ (-1) = r ∧ u = va_up (va_up (va_up (va_up f 95 (ai (ca 0) 200 s1)) 94 (.inr (3, [.ref (ad 95), .int (nI n1)]))) 93 (ai (ca 0) 64 w1)) 92 (ai (ca 0) 8 e1)) := by
  refine x_open (cc := cX3_firstBroken) (maxL := 2) (ret := (some .int)) (by decide) rfl (Nat.le_of_ble_eq_true rfl) ?_
  intro p e s m below meth c ls hx hb hml hown hts hr hlocks hnm hB hK hE hw hl
  have hown : s.vm.findClass RX3 = some m.cls := hown
  have hl : lv_has ls 2 [(0, .ref (ad 90))] := hl
  have hin_4 : ∀ w ∈ u_ws RX3 TX3 7, w ∈ wsX3_firstBroken := by decide +kernel
  have hf_40 := hts (.fieldLink RX3 40 "FixityRows$RowChain" "count" "I") (by decide +kernel)
  have hf_12 := hts (.fieldLink RX3 12 "FixityRows$RowChain" "longDigest" "LFixityRows$LongDigest;") (by decide +kernel)
  have hf_37 := hts (.fieldLink RX3 37 "FixityRows$RowChain" "digests" "[[I") (by decide +kernel)
  have b_90 := c_90
  have b_91 := c_91
  have b_92 := c_92
  have b_93 := c_93
  have b_94 := c_94
  have b_95 := c_95
  have b_96 := c_96
  have b_97 := c_97
  have b_98 := c_98
  have b_99 := c_99
  have P_2 : ∀ (n_2 : Nat) (s1 : Nat → Int32) (n1 : Nat) (w1 : Nat → Int32) (e1 : Nat → Int32) (i : Nat) (H : Heap) (locs : List Loc) (ls : Array Slot), rc + 1 ≤ i + n_2 → (i ≤ rc) → (n1 ≤ 200) → xw D vwCl N ad B s.heap (va_up (va_up (va_up (va_up f 95 (ai (ca 0) 200 s1)) 94 (.inr (3, [.ref (ad 95), .int (nI n1)]))) 93 (ai (ca 0) 64 w1)) 92 (ai (ca 0) 8 e1)) H locs → lv_has ls 2 [(0, .ref (ad 90)), (1, .int (nI i))] → W p l e rmX3_firstBroken s m ([.ref (ad 90)] : List Value).toArray below meth c H locs 0 0 (MQ below (xQi (fun r u => ∃ s1 : Nat → Int32, ∃ n1 : Nat, ∃ w1 : Nat → Int32, ∃ e1 : Nat → Int32, n1 ≤ 200 ∧ (-1) = r ∧ u = va_up (va_up (va_up (va_up f 95 (ai (ca 0) 200 s1)) 94 (.inr (3, [.ref (ad 95), .int (nI n1)]))) 93 (ai (ca 0) 64 w1)) 92 (ai (ca 0) 8 e1)) D N ad B) ([.ref (ad 90)] : List Value).toArray s 0 0 (xA B)) (F0 m 2 ls []) := by
    intro n_2
    induction n_2 with
    | zero =>
      intro s1 n1 w1 e1 i H locs ls hm_2 hi hn1 hw hl
      exact absurd hm_2 (by omega)
    | succ n_2 ih_2 =>
      intro s1 n1 w1 e1 i H locs ls hm_2 hi hn1 hw hl
      have c_90 := b_90
      have c_91 := b_91
      have c_92 := b_92
      have c_93 := b_93
      have c_94 := b_94
      have c_95 := b_95
      have c_96 := b_96
      have c_97 := b_97
      have c_98 := b_98
      have c_99 := b_99
      obtain ⟨f_1, ef_1⟩ : ∃ z, z = va_up (va_up (va_up (va_up f 95 (ai (ca 0) 200 s1)) 94 (.inr (3, [.ref (ad 95), .int (nI n1)]))) 93 (ai (ca 0) 64 w1)) 92 (ai (ca 0) 8 e1) := ⟨_, rfl⟩
      have hw : xw D vwCl N ad B s.heap f_1 H locs := by rw [ef_1]; exact hw
      have c_95 : f_1 95 = ai (ca 0) 200 s1 := by rw [ef_1, va_up_ne _ _ (by decide), va_up_ne _ _ (by decide), va_up_ne _ _ (by decide), va_up_self]
      have c_94 : f_1 94 = .inr (3, [.ref (ad 95), .int (nI n1)]) := by rw [ef_1, va_up_ne _ _ (by decide), va_up_ne _ _ (by decide), va_up_self]
      have c_93 : f_1 93 = ai (ca 0) 64 w1 := by rw [ef_1, va_up_ne _ _ (by decide), va_up_self]
      have c_92 : f_1 92 = ai (ca 0) 8 e1 := by rw [ef_1, va_up_self]
      refine lv_iload_n hx hb dX3_firstBroken_2 rfl (lv_at hl 1 rfl) ?_
      refine lv_aload_n hx hb dX3_firstBroken_3 rfl (lv_at hl 0 rfl) ?_
      have c_90 : f_1 90 = .inr (4, [.ref (ad 91), .ref (ad 94), .ref (ad 96), .ref (ad 97), .ref (ad 98), .ref (ad 99), .int (nI rc)]) := by rw [ef_1, va_up_ne _ _ (by decide), va_up_ne _ _ (by decide), va_up_ne _ _ (by decide), va_up_ne _ _ (by decide)]; exact c_90
      refine x_get (ci := 4) (C := RX3) (T := TX3) (n := 7) (ref := RX3) hx hb hts hin_4 hown hK hw 90 (by omega) c_90 rfl 6 (by decide) hf_40 (fun _ h => h) rfl dX3_firstBroken_4 ?_
      refine n_icge (tgt := 39) hx hb dX3_firstBroken_7 (by decide) (by omega) (by omega) (fun c_7 => ?_) (fun c_7 => ?_)
      · refine lv_iconst (v := (-1)) hx hb dX3_firstBroken_39 (by decide) ?_
        exact x_iret hx hb hr hlocks hw ⟨s1, n1, w1, e1, hn1, rfl, (by simp only [ef_1])⟩ dX3_firstBroken_40
      · refine lv_aload_n hx hb dX3_firstBroken_10 rfl (lv_at hl 0 rfl) ?_
        refine lv_iload_n hx hb dX3_firstBroken_11 rfl (lv_at hl 1 rfl) ?_
        have c_91 : f_1 91 = .inr (2, [.ref (ad 92), .ref (ad 93)]) := by rw [ef_1, va_up_ne _ _ (by decide), va_up_ne _ _ (by decide), va_up_ne _ _ (by decide), va_up_ne _ _ (by decide)]; exact c_91
        have c_96 : f_1 96 = ai (ca 0) 200 kn := by rw [ef_1, va_up_ne _ _ (by decide), va_up_ne _ _ (by decide), va_up_ne _ _ (by decide), va_up_ne _ _ (by decide)]; exact c_96
        have c_97 : f_1 97 = ai (ca 0) 200 fn := by rw [ef_1, va_up_ne _ _ (by decide), va_up_ne _ _ (by decide), va_up_ne _ _ (by decide), va_up_ne _ _ (by decide)]; exact c_97
        have c_98 : f_1 98 = ai (ca 0) 200 dn := by rw [ef_1, va_up_ne _ _ (by decide), va_up_ne _ _ (by decide), va_up_ne _ _ (by decide), va_up_ne _ _ (by decide)]; exact c_98
        have c_99 : f_1 99 = aq (ca 4) 200 (fun i => some (ad (100 + i))) := by rw [ef_1, va_up_ne _ _ (by decide), va_up_ne _ _ (by decide), va_up_ne _ _ (by decide), va_up_ne _ _ (by decide)]; exact c_99
        refine x_Vv (q := 90) (As := [.int (nI i)]) (rest := []) ⟨hx, hb, hml, hown, hts⟩ (k_X3_computeDigestOf l D ca N ad B tR tK f_1 dd rc e1 w1 n1 s1 kn fn dn M i c_90 c_91 c_92 c_93 c_94 c_95 c_96 c_97 c_98 c_99 (fun i hi => by rw [ef_1, va_up_ne _ _ (by omega), va_up_ne _ _ (by omega), va_up_ne _ _ (by omega), va_up_ne _ _ (by omega)]; exact F_M i hi) (by omega) (by omega) (by omega) (by omega)) (cwV 1 hts gX3_firstBroken_X3_computeDigestOf rfl rfl rfl (by decide +kernel) ⟨Nat.le_of_ble_eq_true rfl, Nat.le_of_ble_eq_true rfl⟩) hK hE hB hw (by omega) c_90 rfl rfl rfl rfl hl.1 (Nat.le_of_ble_eq_true rfl) ⟨Nat.zero_le _, Nat.zero_le _⟩ dX3_firstBroken_12 (fun f_2 H locs hp hw => ?_)
        obtain ⟨sv1_4, w1_5, e1_6, hq_7, eu⟩ := hp
        have ef_2 : f_2 = va_up (va_up (va_up (va_up f_1 95 (ai (ca 0) 200 sv1_4)) 94 (.inr (3, [.ref (ad 95), .int (nI 44)]))) 93 (ai (ca 0) 64 w1_5)) 92 (ai (ca 0) 8 e1_6) := eu
        have c_95 : f_2 95 = ai (ca 0) 200 sv1_4 := by rw [ef_2, va_up_ne _ _ (by decide), va_up_ne _ _ (by decide), va_up_ne _ _ (by decide), va_up_self]
        have c_94 : f_2 94 = .inr (3, [.ref (ad 95), .int (nI 44)]) := by rw [ef_2, va_up_ne _ _ (by decide), va_up_ne _ _ (by decide), va_up_self]
        have c_93 : f_2 93 = ai (ca 0) 64 w1_5 := by rw [ef_2, va_up_ne _ _ (by decide), va_up_self]
        have c_92 : f_2 92 = ai (ca 0) 8 e1_6 := by rw [ef_2, va_up_self]
        refine lv_aload_n hx hb dX3_firstBroken_15 rfl (lv_at hl 0 rfl) ?_
        have c_90 : f_2 90 = .inr (4, [.ref (ad 91), .ref (ad 94), .ref (ad 96), .ref (ad 97), .ref (ad 98), .ref (ad 99), .int (nI rc)]) := by rw [ef_2, va_up_ne _ _ (by decide), va_up_ne _ _ (by decide), va_up_ne _ _ (by decide), va_up_ne _ _ (by decide)]; exact c_90
        refine x_get (ci := 4) (C := RX3) (T := TX3) (n := 7) (ref := RX3) hx hb hts hin_4 hown hK hw 90 (by omega) c_90 rfl 0 (by decide) hf_12 (fun _ h => h) rfl dX3_firstBroken_16 ?_
        refine lv_aload_n hx hb dX3_firstBroken_19 rfl (lv_at hl 0 rfl) ?_
        refine x_get (ci := 4) (C := RX3) (T := TX3) (n := 7) (ref := RX3) hx hb hts hin_4 hown hK hw 90 (by omega) c_90 rfl 5 (by decide) hf_37 (fun _ h => h) rfl dX3_firstBroken_20 ?_
        refine lv_iload_n hx hb dX3_firstBroken_23 rfl (lv_at hl 1 rfl) ?_
        have c_99 : f_2 99 = aq (ca 4) 200 (fun i => some (ad (100 + i))) := by rw [ef_2, va_up_ne _ _ (by decide), va_up_ne _ _ (by decide), va_up_ne _ _ (by decide), va_up_ne _ _ (by decide)]; exact c_99
        refine x_aaldA (j := i) (a := ad (100 + i)) hx hb hK hw 99 4 (by omega) c_99 rfl rfl (by omega) (by decide) rfl dX3_firstBroken_24 ?_
        have c_91 : f_2 91 = .inr (2, [.ref (ad 92), .ref (ad 93)]) := by rw [ef_2, va_up_ne _ _ (by decide), va_up_ne _ _ (by decide), va_up_ne _ _ (by decide), va_up_ne _ _ (by decide)]; exact c_91
        have c_100_i : f_2 (100 + i) = ai (ca 0) 8 (M i) := by rw [ef_2, va_up_ne _ _ (by omega), va_up_ne _ _ (by omega), va_up_ne _ _ (by omega), va_up_ne _ _ (by omega), ef_1, va_up_ne _ _ (by omega), va_up_ne _ _ (by omega), va_up_ne _ _ (by omega), va_up_ne _ _ (by omega)]; exact (F_M i (by omega))
        refine x_Vi (q := 91) (As := [.ref (ad (100 + i))]) (rest := []) ⟨hx, hb, hml, hown, hts⟩ (k_X1_equalTo_yes l D ca N ad B tR tK f_2 dd 91 92 93 e1_6 (100 + i) (M i) (by omega) c_91 (by omega) c_92 (by omega) c_100_i  (fun j hj => (hall i c_7 j hj).trans (hq_7 j hj).symm)) (cwV 1 hts gX3_firstBroken_X1_equalTo rfl rfl rfl (by decide +kernel) ⟨Nat.le_of_ble_eq_true rfl, Nat.le_of_ble_eq_true rfl⟩) hK hE hB hw (by omega) c_91 rfl rfl rfl rfl hl.1 (Nat.le_of_ble_eq_true rfl) ⟨Nat.zero_le _, Nat.zero_le _⟩ dX3_firstBroken_25 (fun r_9 f_8 H locs hp hw => ?_)
        obtain ⟨er, eu⟩ := hp
        rw [← er]
        rw [← eu] at hw
        refine lv_if_ne (tgt := 33) hx hb dX3_firstBroken_28 (by decide) (fun _ => ?_) (fun h => absurd h (by decide))
        refine lv_iinc (v := nI (i + 1)) (lv' := [(1, .int (nI (i + 1))), (0, .ref (ad 90))]) hx hb dX3_firstBroken_33 hl (k := 1) rfl (by rw [show Int32.ofInt 1 = nI 1 from rfl]; exact nI_add _ _) (by decide) rfl (fun ls hl => ?_)
        refine lv_goto (tgt := 2) hx hb dX3_firstBroken_36 (by decide) ?_
        have hw : xw D vwCl N ad B s.heap (va_up (va_up (va_up (va_up f 95 (ai (ca 0) 200 sv1_4)) 94 (.inr (3, [.ref (ad 95), .int (nI 44)]))) 93 (ai (ca 0) 64 w1_5)) 92 (ai (ca 0) 8 e1_6)) H locs := by
          have ez : f_2 = va_up (va_up (va_up (va_up f 95 (ai (ca 0) 200 sv1_4)) 94 (.inr (3, [.ref (ad 95), .int (nI 44)]))) 93 (ai (ca 0) 64 w1_5)) 92 (ai (ca 0) 8 e1_6) := by simp only [ef_2, ef_1, up_aa, up_4]
          rw [← ez]; exact hw
        exact ih_2 sv1_4 44 w1_5 e1_6 (i + 1) _ _ _ (by omega) (by omega) (by omega) hw (lv_sub hl [1, 0] rfl)
  refine lv_iconst (v := nI 0) hx hb dX3_firstBroken_0 (by decide) ?_
  refine lv_istore_n (lv' := [(1, .int (nI 0)), (0, .ref (ad 90))]) hx hb dX3_firstBroken_1 rfl hl (by decide) rfl (fun ls hl => ?_)
  have hw : xw D vwCl N ad B s.heap (va_up (va_up (va_up (va_up f 95 (ai (ca 0) 200 sv)) 94 (.inr (3, [.ref (ad 95), .int (nI sn)]))) 93 (ai (ca 0) 64 cw)) 92 (ai (ca 0) 8 ce)) s.heap [] := by
    have ez : f = va_up (va_up (va_up (va_up f 95 (ai (ca 0) 200 sv)) 94 (.inr (3, [.ref (ad 95), .int (nI sn)]))) 93 (ai (ca 0) 64 cw)) 92 (ai (ca 0) 8 ce) := by rw [← b_95, up_same, ← b_94, up_same, ← b_93, up_same, ← b_92, up_same]
    rw [← ez]; exact hw
  exact P_2 ((rc + 1)) sv sn cw ce 0 _ _ _ (by omega) (by omega) (by omega) hw (lv_sub hl [1, 0] rfl)

set_option maxHeartbeats 4000000 in
set_option maxRecDepth 100000 in
theorem k_X3_firstBroken_some (l : Launch) (D : va_G) (ca : Nat → ClassId) (N : Nat) (ad : Nat → Nat) (B tR tK : Nat) (f : Nat → va_E) (dd : xD N ad B) (rc : Nat) (ce : Nat → Int32) (cw : Nat → Int32) (sn : Nat) (sv : Nat → Int32) (kn : Nat → Int32) (fn : Nat → Int32) (dn : Nat → Int32) (M : Nat → Nat → Int32) (b : Nat) (c_90 : f 90 = .inr (4, [.ref (ad 91), .ref (ad 94), .ref (ad 96), .ref (ad 97), .ref (ad 98), .ref (ad 99), .int (nI rc)])) (c_91 : f 91 = .inr (2, [.ref (ad 92), .ref (ad 93)])) (c_92 : f 92 = ai (ca 0) 8 ce) (c_93 : f 93 = ai (ca 0) 64 cw) (c_94 : f 94 = .inr (3, [.ref (ad 95), .int (nI sn)])) (c_95 : f 95 = ai (ca 0) 200 sv) (c_96 : f 96 = ai (ca 0) 200 kn) (c_97 : f 97 = ai (ca 0) 200 fn) (c_98 : f 98 = ai (ca 0) 200 dn) (c_99 : f 99 = aq (ca 4) 200 (fun i => some (ad (100 + i)))) (F_M : ∀ i, i < 200 → f (100 + i) = ai (ca 0) 8 (M i)) (hN : 302 ≤ N) (hrc : rc ≤ 200) (hsn : sn ≤ 200) (hb9 : b < rc) (hall : ∀ i, i < b → ∀ j, j < 8 → M i j = rowD (prevD M i) (kn i) (fn i) (dn i) j) (hbad : ∃ j, j < 8 ∧ M b j ≠ rowD (prevD M b) (kn b) (fn b) (dn b) j) : xMi l yX3_firstBroken wsX3_firstBroken rmX3_firstBroken [.ref (ad 90)] D ca N ad B tR tK f (fun r u => ∃ s1 : Nat → Int32, ∃ n1 : Nat, ∃ w1 : Nat → Int32, ∃ e1 : Nat → Int32, n1 ≤ 200 ∧ nI b = r ∧ u = va_up (va_up (va_up (va_up f 95 (ai (ca 0) 200 s1)) 94 (.inr (3, [.ref (ad 95), .int (nI n1)]))) 93 (ai (ca 0) 64 w1)) 92 (ai (ca 0) 8 e1)) := by
  refine x_open (cc := cX3_firstBroken) (maxL := 2) (ret := (some .int)) (by decide) rfl (Nat.le_of_ble_eq_true rfl) ?_
  intro p e s m below meth c ls hx hb hml hown hts hr hlocks hnm hB hK hE hw hl
  have hown : s.vm.findClass RX3 = some m.cls := hown
  have hl : lv_has ls 2 [(0, .ref (ad 90))] := hl
  have hin_4 : ∀ w ∈ u_ws RX3 TX3 7, w ∈ wsX3_firstBroken := by decide +kernel
  have hf_40 := hts (.fieldLink RX3 40 "FixityRows$RowChain" "count" "I") (by decide +kernel)
  have hf_12 := hts (.fieldLink RX3 12 "FixityRows$RowChain" "longDigest" "LFixityRows$LongDigest;") (by decide +kernel)
  have hf_37 := hts (.fieldLink RX3 37 "FixityRows$RowChain" "digests" "[[I") (by decide +kernel)
  have b_90 := c_90
  have b_91 := c_91
  have b_92 := c_92
  have b_93 := c_93
  have b_94 := c_94
  have b_95 := c_95
  have b_96 := c_96
  have b_97 := c_97
  have b_98 := c_98
  have b_99 := c_99
  have P_2 : ∀ (n_2 : Nat) (s1 : Nat → Int32) (n1 : Nat) (w1 : Nat → Int32) (e1 : Nat → Int32) (i : Nat) (H : Heap) (locs : List Loc) (ls : Array Slot), rc + 1 ≤ i + n_2 → (i ≤ b) → (n1 ≤ 200) → xw D vwCl N ad B s.heap (va_up (va_up (va_up (va_up f 95 (ai (ca 0) 200 s1)) 94 (.inr (3, [.ref (ad 95), .int (nI n1)]))) 93 (ai (ca 0) 64 w1)) 92 (ai (ca 0) 8 e1)) H locs → lv_has ls 2 [(0, .ref (ad 90)), (1, .int (nI i))] → W p l e rmX3_firstBroken s m ([.ref (ad 90)] : List Value).toArray below meth c H locs 0 0 (MQ below (xQi (fun r u => ∃ s1 : Nat → Int32, ∃ n1 : Nat, ∃ w1 : Nat → Int32, ∃ e1 : Nat → Int32, n1 ≤ 200 ∧ nI b = r ∧ u = va_up (va_up (va_up (va_up f 95 (ai (ca 0) 200 s1)) 94 (.inr (3, [.ref (ad 95), .int (nI n1)]))) 93 (ai (ca 0) 64 w1)) 92 (ai (ca 0) 8 e1)) D N ad B) ([.ref (ad 90)] : List Value).toArray s 0 0 (xA B)) (F0 m 2 ls []) := by
    intro n_2
    induction n_2 with
    | zero =>
      intro s1 n1 w1 e1 i H locs ls hm_2 hi hn1 hw hl
      exact absurd hm_2 (by omega)
    | succ n_2 ih_2 =>
      intro s1 n1 w1 e1 i H locs ls hm_2 hi hn1 hw hl
      have c_90 := b_90
      have c_91 := b_91
      have c_92 := b_92
      have c_93 := b_93
      have c_94 := b_94
      have c_95 := b_95
      have c_96 := b_96
      have c_97 := b_97
      have c_98 := b_98
      have c_99 := b_99
      obtain ⟨f_1, ef_1⟩ : ∃ z, z = va_up (va_up (va_up (va_up f 95 (ai (ca 0) 200 s1)) 94 (.inr (3, [.ref (ad 95), .int (nI n1)]))) 93 (ai (ca 0) 64 w1)) 92 (ai (ca 0) 8 e1) := ⟨_, rfl⟩
      have hw : xw D vwCl N ad B s.heap f_1 H locs := by rw [ef_1]; exact hw
      have c_95 : f_1 95 = ai (ca 0) 200 s1 := by rw [ef_1, va_up_ne _ _ (by decide), va_up_ne _ _ (by decide), va_up_ne _ _ (by decide), va_up_self]
      have c_94 : f_1 94 = .inr (3, [.ref (ad 95), .int (nI n1)]) := by rw [ef_1, va_up_ne _ _ (by decide), va_up_ne _ _ (by decide), va_up_self]
      have c_93 : f_1 93 = ai (ca 0) 64 w1 := by rw [ef_1, va_up_ne _ _ (by decide), va_up_self]
      have c_92 : f_1 92 = ai (ca 0) 8 e1 := by rw [ef_1, va_up_self]
      refine lv_iload_n hx hb dX3_firstBroken_2 rfl (lv_at hl 1 rfl) ?_
      refine lv_aload_n hx hb dX3_firstBroken_3 rfl (lv_at hl 0 rfl) ?_
      have c_90 : f_1 90 = .inr (4, [.ref (ad 91), .ref (ad 94), .ref (ad 96), .ref (ad 97), .ref (ad 98), .ref (ad 99), .int (nI rc)]) := by rw [ef_1, va_up_ne _ _ (by decide), va_up_ne _ _ (by decide), va_up_ne _ _ (by decide), va_up_ne _ _ (by decide)]; exact c_90
      refine x_get (ci := 4) (C := RX3) (T := TX3) (n := 7) (ref := RX3) hx hb hts hin_4 hown hK hw 90 (by omega) c_90 rfl 6 (by decide) hf_40 (fun _ h => h) rfl dX3_firstBroken_4 ?_
      refine n_icge (tgt := 39) hx hb dX3_firstBroken_7 (by decide) (by omega) (by omega) (fun c_7 => ?_) (fun c_7 => ?_)
      · omega
      · refine lv_aload_n hx hb dX3_firstBroken_10 rfl (lv_at hl 0 rfl) ?_
        refine lv_iload_n hx hb dX3_firstBroken_11 rfl (lv_at hl 1 rfl) ?_
        have c_91 : f_1 91 = .inr (2, [.ref (ad 92), .ref (ad 93)]) := by rw [ef_1, va_up_ne _ _ (by decide), va_up_ne _ _ (by decide), va_up_ne _ _ (by decide), va_up_ne _ _ (by decide)]; exact c_91
        have c_96 : f_1 96 = ai (ca 0) 200 kn := by rw [ef_1, va_up_ne _ _ (by decide), va_up_ne _ _ (by decide), va_up_ne _ _ (by decide), va_up_ne _ _ (by decide)]; exact c_96
        have c_97 : f_1 97 = ai (ca 0) 200 fn := by rw [ef_1, va_up_ne _ _ (by decide), va_up_ne _ _ (by decide), va_up_ne _ _ (by decide), va_up_ne _ _ (by decide)]; exact c_97
        have c_98 : f_1 98 = ai (ca 0) 200 dn := by rw [ef_1, va_up_ne _ _ (by decide), va_up_ne _ _ (by decide), va_up_ne _ _ (by decide), va_up_ne _ _ (by decide)]; exact c_98
        have c_99 : f_1 99 = aq (ca 4) 200 (fun i => some (ad (100 + i))) := by rw [ef_1, va_up_ne _ _ (by decide), va_up_ne _ _ (by decide), va_up_ne _ _ (by decide), va_up_ne _ _ (by decide)]; exact c_99
        refine x_Vv (q := 90) (As := [.int (nI i)]) (rest := []) ⟨hx, hb, hml, hown, hts⟩ (k_X3_computeDigestOf l D ca N ad B tR tK f_1 dd rc e1 w1 n1 s1 kn fn dn M i c_90 c_91 c_92 c_93 c_94 c_95 c_96 c_97 c_98 c_99 (fun i hi => by rw [ef_1, va_up_ne _ _ (by omega), va_up_ne _ _ (by omega), va_up_ne _ _ (by omega), va_up_ne _ _ (by omega)]; exact F_M i hi) (by omega) (by omega) (by omega) (by omega)) (cwV 1 hts gX3_firstBroken_X3_computeDigestOf rfl rfl rfl (by decide +kernel) ⟨Nat.le_of_ble_eq_true rfl, Nat.le_of_ble_eq_true rfl⟩) hK hE hB hw (by omega) c_90 rfl rfl rfl rfl hl.1 (Nat.le_of_ble_eq_true rfl) ⟨Nat.zero_le _, Nat.zero_le _⟩ dX3_firstBroken_12 (fun f_2 H locs hp hw => ?_)
        obtain ⟨sv1_4, w1_5, e1_6, hq_7, eu⟩ := hp
        have ef_2 : f_2 = va_up (va_up (va_up (va_up f_1 95 (ai (ca 0) 200 sv1_4)) 94 (.inr (3, [.ref (ad 95), .int (nI 44)]))) 93 (ai (ca 0) 64 w1_5)) 92 (ai (ca 0) 8 e1_6) := eu
        have c_95 : f_2 95 = ai (ca 0) 200 sv1_4 := by rw [ef_2, va_up_ne _ _ (by decide), va_up_ne _ _ (by decide), va_up_ne _ _ (by decide), va_up_self]
        have c_94 : f_2 94 = .inr (3, [.ref (ad 95), .int (nI 44)]) := by rw [ef_2, va_up_ne _ _ (by decide), va_up_ne _ _ (by decide), va_up_self]
        have c_93 : f_2 93 = ai (ca 0) 64 w1_5 := by rw [ef_2, va_up_ne _ _ (by decide), va_up_self]
        have c_92 : f_2 92 = ai (ca 0) 8 e1_6 := by rw [ef_2, va_up_self]
        rcases Nat.lt_or_ge i b with hlt | hge
        · refine lv_aload_n hx hb dX3_firstBroken_15 rfl (lv_at hl 0 rfl) ?_
          have c_90 : f_2 90 = .inr (4, [.ref (ad 91), .ref (ad 94), .ref (ad 96), .ref (ad 97), .ref (ad 98), .ref (ad 99), .int (nI rc)]) := by rw [ef_2, va_up_ne _ _ (by decide), va_up_ne _ _ (by decide), va_up_ne _ _ (by decide), va_up_ne _ _ (by decide)]; exact c_90
          refine x_get (ci := 4) (C := RX3) (T := TX3) (n := 7) (ref := RX3) hx hb hts hin_4 hown hK hw 90 (by omega) c_90 rfl 0 (by decide) hf_12 (fun _ h => h) rfl dX3_firstBroken_16 ?_
          refine lv_aload_n hx hb dX3_firstBroken_19 rfl (lv_at hl 0 rfl) ?_
          refine x_get (ci := 4) (C := RX3) (T := TX3) (n := 7) (ref := RX3) hx hb hts hin_4 hown hK hw 90 (by omega) c_90 rfl 5 (by decide) hf_37 (fun _ h => h) rfl dX3_firstBroken_20 ?_
          refine lv_iload_n hx hb dX3_firstBroken_23 rfl (lv_at hl 1 rfl) ?_
          have c_99 : f_2 99 = aq (ca 4) 200 (fun i => some (ad (100 + i))) := by rw [ef_2, va_up_ne _ _ (by decide), va_up_ne _ _ (by decide), va_up_ne _ _ (by decide), va_up_ne _ _ (by decide)]; exact c_99
          refine x_aaldA (j := i) (a := ad (100 + i)) hx hb hK hw 99 4 (by omega) c_99 rfl rfl (by omega) (by decide) rfl dX3_firstBroken_24 ?_
          have c_91 : f_2 91 = .inr (2, [.ref (ad 92), .ref (ad 93)]) := by rw [ef_2, va_up_ne _ _ (by decide), va_up_ne _ _ (by decide), va_up_ne _ _ (by decide), va_up_ne _ _ (by decide)]; exact c_91
          have c_100_i : f_2 (100 + i) = ai (ca 0) 8 (M i) := by rw [ef_2, va_up_ne _ _ (by omega), va_up_ne _ _ (by omega), va_up_ne _ _ (by omega), va_up_ne _ _ (by omega), ef_1, va_up_ne _ _ (by omega), va_up_ne _ _ (by omega), va_up_ne _ _ (by omega), va_up_ne _ _ (by omega)]; exact (F_M i (by omega))
          refine x_Vi (q := 91) (As := [.ref (ad (100 + i))]) (rest := []) ⟨hx, hb, hml, hown, hts⟩ (k_X1_equalTo_yes l D ca N ad B tR tK f_2 dd 91 92 93 e1_6 (100 + i) (M i) (by omega) c_91 (by omega) c_92 (by omega) c_100_i  (fun j hj => (hall i hlt j hj).trans (hq_7 j hj).symm)) (cwV 1 hts gX3_firstBroken_X1_equalTo rfl rfl rfl (by decide +kernel) ⟨Nat.le_of_ble_eq_true rfl, Nat.le_of_ble_eq_true rfl⟩) hK hE hB hw (by omega) c_91 rfl rfl rfl rfl hl.1 (Nat.le_of_ble_eq_true rfl) ⟨Nat.zero_le _, Nat.zero_le _⟩ dX3_firstBroken_25 (fun r_9 f_8 H locs hp hw => ?_)
          obtain ⟨er, eu⟩ := hp
          rw [← er]
          rw [← eu] at hw
          refine lv_if_ne (tgt := 33) hx hb dX3_firstBroken_28 (by decide) (fun _ => ?_) (fun h => absurd h (by decide))
          refine lv_iinc (v := nI (i + 1)) (lv' := [(1, .int (nI (i + 1))), (0, .ref (ad 90))]) hx hb dX3_firstBroken_33 hl (k := 1) rfl (by rw [show Int32.ofInt 1 = nI 1 from rfl]; exact nI_add _ _) (by decide) rfl (fun ls hl => ?_)
          refine lv_goto (tgt := 2) hx hb dX3_firstBroken_36 (by decide) ?_
          have hw : xw D vwCl N ad B s.heap (va_up (va_up (va_up (va_up f 95 (ai (ca 0) 200 sv1_4)) 94 (.inr (3, [.ref (ad 95), .int (nI 44)]))) 93 (ai (ca 0) 64 w1_5)) 92 (ai (ca 0) 8 e1_6)) H locs := by
            have ez : f_2 = va_up (va_up (va_up (va_up f 95 (ai (ca 0) 200 sv1_4)) 94 (.inr (3, [.ref (ad 95), .int (nI 44)]))) 93 (ai (ca 0) 64 w1_5)) 92 (ai (ca 0) 8 e1_6) := by simp only [ef_2, ef_1, up_aa, up_4]
            rw [← ez]; exact hw
          exact ih_2 sv1_4 44 w1_5 e1_6 (i + 1) _ _ _ (by omega) (by omega) (by omega) hw (lv_sub hl [1, 0] rfl)
        · refine lv_aload_n hx hb dX3_firstBroken_15 rfl (lv_at hl 0 rfl) ?_
          have c_90 : f_2 90 = .inr (4, [.ref (ad 91), .ref (ad 94), .ref (ad 96), .ref (ad 97), .ref (ad 98), .ref (ad 99), .int (nI rc)]) := by rw [ef_2, va_up_ne _ _ (by decide), va_up_ne _ _ (by decide), va_up_ne _ _ (by decide), va_up_ne _ _ (by decide)]; exact c_90
          refine x_get (ci := 4) (C := RX3) (T := TX3) (n := 7) (ref := RX3) hx hb hts hin_4 hown hK hw 90 (by omega) c_90 rfl 0 (by decide) hf_12 (fun _ h => h) rfl dX3_firstBroken_16 ?_
          refine lv_aload_n hx hb dX3_firstBroken_19 rfl (lv_at hl 0 rfl) ?_
          refine x_get (ci := 4) (C := RX3) (T := TX3) (n := 7) (ref := RX3) hx hb hts hin_4 hown hK hw 90 (by omega) c_90 rfl 5 (by decide) hf_37 (fun _ h => h) rfl dX3_firstBroken_20 ?_
          refine lv_iload_n hx hb dX3_firstBroken_23 rfl (lv_at hl 1 rfl) ?_
          have c_99 : f_2 99 = aq (ca 4) 200 (fun i => some (ad (100 + i))) := by rw [ef_2, va_up_ne _ _ (by decide), va_up_ne _ _ (by decide), va_up_ne _ _ (by decide), va_up_ne _ _ (by decide)]; exact c_99
          refine x_aaldA (j := i) (a := ad (100 + i)) hx hb hK hw 99 4 (by omega) c_99 rfl rfl (by omega) (by decide) rfl dX3_firstBroken_24 ?_
          have c_91 : f_2 91 = .inr (2, [.ref (ad 92), .ref (ad 93)]) := by rw [ef_2, va_up_ne _ _ (by decide), va_up_ne _ _ (by decide), va_up_ne _ _ (by decide), va_up_ne _ _ (by decide)]; exact c_91
          have c_100_i : f_2 (100 + i) = ai (ca 0) 8 (M i) := by rw [ef_2, va_up_ne _ _ (by omega), va_up_ne _ _ (by omega), va_up_ne _ _ (by omega), va_up_ne _ _ (by omega), ef_1, va_up_ne _ _ (by omega), va_up_ne _ _ (by omega), va_up_ne _ _ (by omega), va_up_ne _ _ (by omega)]; exact (F_M i (by omega))
          refine x_Vi (q := 91) (As := [.ref (ad (100 + i))]) (rest := []) ⟨hx, hb, hml, hown, hts⟩ (k_X1_equalTo_no l D ca N ad B tR tK f_2 dd 91 92 93 e1_6 (100 + i) (M i) (by omega) c_91 (by omega) c_92 (by omega) c_100_i  (by have ei : i = b := (by omega); rw [ei]; obtain ⟨j, h1, h2⟩ := hbad; exact ⟨j, h1, fun z => h2 (by rw [z, hq_7 j h1, ei])⟩)) (cwV 1 hts gX3_firstBroken_X1_equalTo rfl rfl rfl (by decide +kernel) ⟨Nat.le_of_ble_eq_true rfl, Nat.le_of_ble_eq_true rfl⟩) hK hE hB hw (by omega) c_91 rfl rfl rfl rfl hl.1 (Nat.le_of_ble_eq_true rfl) ⟨Nat.zero_le _, Nat.zero_le _⟩ dX3_firstBroken_25 (fun r_11 f_10 H locs hp hw => ?_)
          obtain ⟨er, eu⟩ := hp
          rw [← er]
          rw [← eu] at hw
          refine lv_if_ne (tgt := 33) hx hb dX3_firstBroken_28 (by decide) (fun h => False.elim (h (by decide))) (fun _ => ?_)
          refine lv_iload_n hx hb dX3_firstBroken_31 rfl (lv_at hl 1 rfl) ?_
          exact x_iret hx hb hr hlocks hw ⟨sv1_4, 44, w1_5, e1_6, (by decide), (by have ei : i = b := (by omega); rw [ei]), (by simp only [ef_2, ef_1, up_4])⟩ dX3_firstBroken_32
  refine lv_iconst (v := nI 0) hx hb dX3_firstBroken_0 (by decide) ?_
  refine lv_istore_n (lv' := [(1, .int (nI 0)), (0, .ref (ad 90))]) hx hb dX3_firstBroken_1 rfl hl (by decide) rfl (fun ls hl => ?_)
  have hw : xw D vwCl N ad B s.heap (va_up (va_up (va_up (va_up f 95 (ai (ca 0) 200 sv)) 94 (.inr (3, [.ref (ad 95), .int (nI sn)]))) 93 (ai (ca 0) 64 cw)) 92 (ai (ca 0) 8 ce)) s.heap [] := by
    have ez : f = va_up (va_up (va_up (va_up f 95 (ai (ca 0) 200 sv)) 94 (.inr (3, [.ref (ad 95), .int (nI sn)]))) 93 (ai (ca 0) 64 cw)) 92 (ai (ca 0) 8 ce) := by rw [← b_95, up_same, ← b_94, up_same, ← b_93, up_same, ← b_92, up_same]
    rw [← ez]; exact hw
  exact P_2 ((rc + 1)) sv sn cw ce 0 _ _ _ (by omega) (by omega) (by omega) hw (lv_sub hl [1, 0] rfl)
