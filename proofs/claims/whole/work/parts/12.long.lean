abbrev rmX1_smallSigma0 : Room := { frames := 0, cells := 0, slots := 0, locals := 0 }

set_option maxHeartbeats 4000000 in
set_option maxRecDepth 100000 in
theorem k_X1_smallSigma0 (l : Launch) (D : va_G) (ca : Nat → ClassId) (N : Nat) (ad : Nat → Nat) (B tR tK : Nat) (f : Nat → va_E) (dd : xD N ad B) (x : Int32)    : xMi l yX1_smallSigma0 wsX1_smallSigma0 rmX1_smallSigma0 [.int x] D ca N ad B tR tK f (fun r u => sg0 x = r ∧ f = u) := by
  refine x_open (cc := cX1_smallSigma0) (maxL := 1) (ret := (some .int)) (by decide) rfl (Nat.le_of_ble_eq_true rfl) ?_
  intro p e s m below meth c ls hx hb hml hown hts hr hlocks hnm hB hK hE hw hl
  have hown : s.vm.findClass RX1 = some m.cls := hown
  have hl : lv_has ls 1 [(0, .int x)] := hl
  refine lv_iload_n hx hb dX1_smallSigma0_0 rfl (lv_at hl 0 rfl) ?_
  refine lv_bipush (v := nI 7) hx hb dX1_smallSigma0_1 (by decide) ?_
  refine n_iushr hx hb dX1_smallSigma0_3 ?_
  refine lv_iload_n hx hb dX1_smallSigma0_4 rfl (lv_at hl 0 rfl) ?_
  refine lv_bipush (v := nI 25) hx hb dX1_smallSigma0_5 (by decide) ?_
  refine lv_ishl hx hb dX1_smallSigma0_7 ?_
  refine lv_ior hx hb dX1_smallSigma0_8 ?_
  refine lv_iload_n hx hb dX1_smallSigma0_9 rfl (lv_at hl 0 rfl) ?_
  refine lv_bipush (v := nI 18) hx hb dX1_smallSigma0_10 (by decide) ?_
  refine n_iushr hx hb dX1_smallSigma0_12 ?_
  refine lv_iload_n hx hb dX1_smallSigma0_13 rfl (lv_at hl 0 rfl) ?_
  refine lv_bipush (v := nI 14) hx hb dX1_smallSigma0_14 (by decide) ?_
  refine lv_ishl hx hb dX1_smallSigma0_16 ?_
  refine lv_ior hx hb dX1_smallSigma0_17 ?_
  refine lv_ixor hx hb dX1_smallSigma0_18 ?_
  refine lv_iload_n hx hb dX1_smallSigma0_19 rfl (lv_at hl 0 rfl) ?_
  refine lv_iconst (v := nI 3) hx hb dX1_smallSigma0_20 (by decide) ?_
  refine n_iushr hx hb dX1_smallSigma0_21 ?_
  refine lv_ixor hx hb dX1_smallSigma0_22 ?_
  exact x_iret hx hb hr hlocks hw ⟨rfl, rfl⟩ dX1_smallSigma0_23

abbrev rmX1_smallSigma1 : Room := { frames := 0, cells := 0, slots := 0, locals := 0 }

set_option maxHeartbeats 4000000 in
set_option maxRecDepth 100000 in
theorem k_X1_smallSigma1 (l : Launch) (D : va_G) (ca : Nat → ClassId) (N : Nat) (ad : Nat → Nat) (B tR tK : Nat) (f : Nat → va_E) (dd : xD N ad B) (x : Int32)    : xMi l yX1_smallSigma1 wsX1_smallSigma1 rmX1_smallSigma1 [.int x] D ca N ad B tR tK f (fun r u => sg1 x = r ∧ f = u) := by
  refine x_open (cc := cX1_smallSigma1) (maxL := 1) (ret := (some .int)) (by decide) rfl (Nat.le_of_ble_eq_true rfl) ?_
  intro p e s m below meth c ls hx hb hml hown hts hr hlocks hnm hB hK hE hw hl
  have hown : s.vm.findClass RX1 = some m.cls := hown
  have hl : lv_has ls 1 [(0, .int x)] := hl
  refine lv_iload_n hx hb dX1_smallSigma1_0 rfl (lv_at hl 0 rfl) ?_
  refine lv_bipush (v := nI 17) hx hb dX1_smallSigma1_1 (by decide) ?_
  refine n_iushr hx hb dX1_smallSigma1_3 ?_
  refine lv_iload_n hx hb dX1_smallSigma1_4 rfl (lv_at hl 0 rfl) ?_
  refine lv_bipush (v := nI 15) hx hb dX1_smallSigma1_5 (by decide) ?_
  refine lv_ishl hx hb dX1_smallSigma1_7 ?_
  refine lv_ior hx hb dX1_smallSigma1_8 ?_
  refine lv_iload_n hx hb dX1_smallSigma1_9 rfl (lv_at hl 0 rfl) ?_
  refine lv_bipush (v := nI 19) hx hb dX1_smallSigma1_10 (by decide) ?_
  refine n_iushr hx hb dX1_smallSigma1_12 ?_
  refine lv_iload_n hx hb dX1_smallSigma1_13 rfl (lv_at hl 0 rfl) ?_
  refine lv_bipush (v := nI 13) hx hb dX1_smallSigma1_14 (by decide) ?_
  refine lv_ishl hx hb dX1_smallSigma1_16 ?_
  refine lv_ior hx hb dX1_smallSigma1_17 ?_
  refine lv_ixor hx hb dX1_smallSigma1_18 ?_
  refine lv_iload_n hx hb dX1_smallSigma1_19 rfl (lv_at hl 0 rfl) ?_
  refine lv_bipush (v := nI 10) hx hb dX1_smallSigma1_20 (by decide) ?_
  refine n_iushr hx hb dX1_smallSigma1_22 ?_
  refine lv_ixor hx hb dX1_smallSigma1_23 ?_
  exact x_iret hx hb hr hlocks hw ⟨rfl, rfl⟩ dX1_smallSigma1_24

abbrev rmX1_bigSigma0 : Room := { frames := 0, cells := 0, slots := 0, locals := 0 }

set_option maxHeartbeats 4000000 in
set_option maxRecDepth 100000 in
theorem k_X1_bigSigma0 (l : Launch) (D : va_G) (ca : Nat → ClassId) (N : Nat) (ad : Nat → Nat) (B tR tK : Nat) (f : Nat → va_E) (dd : xD N ad B) (x : Int32)    : xMi l yX1_bigSigma0 wsX1_bigSigma0 rmX1_bigSigma0 [.int x] D ca N ad B tR tK f (fun r u => bs0 x = r ∧ f = u) := by
  refine x_open (cc := cX1_bigSigma0) (maxL := 1) (ret := (some .int)) (by decide) rfl (Nat.le_of_ble_eq_true rfl) ?_
  intro p e s m below meth c ls hx hb hml hown hts hr hlocks hnm hB hK hE hw hl
  have hown : s.vm.findClass RX1 = some m.cls := hown
  have hl : lv_has ls 1 [(0, .int x)] := hl
  refine lv_iload_n hx hb dX1_bigSigma0_0 rfl (lv_at hl 0 rfl) ?_
  refine lv_iconst (v := nI 2) hx hb dX1_bigSigma0_1 (by decide) ?_
  refine n_iushr hx hb dX1_bigSigma0_2 ?_
  refine lv_iload_n hx hb dX1_bigSigma0_3 rfl (lv_at hl 0 rfl) ?_
  refine lv_bipush (v := nI 30) hx hb dX1_bigSigma0_4 (by decide) ?_
  refine lv_ishl hx hb dX1_bigSigma0_6 ?_
  refine lv_ior hx hb dX1_bigSigma0_7 ?_
  refine lv_iload_n hx hb dX1_bigSigma0_8 rfl (lv_at hl 0 rfl) ?_
  refine lv_bipush (v := nI 13) hx hb dX1_bigSigma0_9 (by decide) ?_
  refine n_iushr hx hb dX1_bigSigma0_11 ?_
  refine lv_iload_n hx hb dX1_bigSigma0_12 rfl (lv_at hl 0 rfl) ?_
  refine lv_bipush (v := nI 19) hx hb dX1_bigSigma0_13 (by decide) ?_
  refine lv_ishl hx hb dX1_bigSigma0_15 ?_
  refine lv_ior hx hb dX1_bigSigma0_16 ?_
  refine lv_ixor hx hb dX1_bigSigma0_17 ?_
  refine lv_iload_n hx hb dX1_bigSigma0_18 rfl (lv_at hl 0 rfl) ?_
  refine lv_bipush (v := nI 22) hx hb dX1_bigSigma0_19 (by decide) ?_
  refine n_iushr hx hb dX1_bigSigma0_21 ?_
  refine lv_iload_n hx hb dX1_bigSigma0_22 rfl (lv_at hl 0 rfl) ?_
  refine lv_bipush (v := nI 10) hx hb dX1_bigSigma0_23 (by decide) ?_
  refine lv_ishl hx hb dX1_bigSigma0_25 ?_
  refine lv_ior hx hb dX1_bigSigma0_26 ?_
  refine lv_ixor hx hb dX1_bigSigma0_27 ?_
  exact x_iret hx hb hr hlocks hw ⟨rfl, rfl⟩ dX1_bigSigma0_28

abbrev rmX1_bigSigma1 : Room := { frames := 0, cells := 0, slots := 0, locals := 0 }

set_option maxHeartbeats 4000000 in
set_option maxRecDepth 100000 in
theorem k_X1_bigSigma1 (l : Launch) (D : va_G) (ca : Nat → ClassId) (N : Nat) (ad : Nat → Nat) (B tR tK : Nat) (f : Nat → va_E) (dd : xD N ad B) (x : Int32)    : xMi l yX1_bigSigma1 wsX1_bigSigma1 rmX1_bigSigma1 [.int x] D ca N ad B tR tK f (fun r u => bs1 x = r ∧ f = u) := by
  refine x_open (cc := cX1_bigSigma1) (maxL := 1) (ret := (some .int)) (by decide) rfl (Nat.le_of_ble_eq_true rfl) ?_
  intro p e s m below meth c ls hx hb hml hown hts hr hlocks hnm hB hK hE hw hl
  have hown : s.vm.findClass RX1 = some m.cls := hown
  have hl : lv_has ls 1 [(0, .int x)] := hl
  refine lv_iload_n hx hb dX1_bigSigma1_0 rfl (lv_at hl 0 rfl) ?_
  refine lv_bipush (v := nI 6) hx hb dX1_bigSigma1_1 (by decide) ?_
  refine n_iushr hx hb dX1_bigSigma1_3 ?_
  refine lv_iload_n hx hb dX1_bigSigma1_4 rfl (lv_at hl 0 rfl) ?_
  refine lv_bipush (v := nI 26) hx hb dX1_bigSigma1_5 (by decide) ?_
  refine lv_ishl hx hb dX1_bigSigma1_7 ?_
  refine lv_ior hx hb dX1_bigSigma1_8 ?_
  refine lv_iload_n hx hb dX1_bigSigma1_9 rfl (lv_at hl 0 rfl) ?_
  refine lv_bipush (v := nI 11) hx hb dX1_bigSigma1_10 (by decide) ?_
  refine n_iushr hx hb dX1_bigSigma1_12 ?_
  refine lv_iload_n hx hb dX1_bigSigma1_13 rfl (lv_at hl 0 rfl) ?_
  refine lv_bipush (v := nI 21) hx hb dX1_bigSigma1_14 (by decide) ?_
  refine lv_ishl hx hb dX1_bigSigma1_16 ?_
  refine lv_ior hx hb dX1_bigSigma1_17 ?_
  refine lv_ixor hx hb dX1_bigSigma1_18 ?_
  refine lv_iload_n hx hb dX1_bigSigma1_19 rfl (lv_at hl 0 rfl) ?_
  refine lv_bipush (v := nI 25) hx hb dX1_bigSigma1_20 (by decide) ?_
  refine n_iushr hx hb dX1_bigSigma1_22 ?_
  refine lv_iload_n hx hb dX1_bigSigma1_23 rfl (lv_at hl 0 rfl) ?_
  refine lv_bipush (v := nI 7) hx hb dX1_bigSigma1_24 (by decide) ?_
  refine lv_ishl hx hb dX1_bigSigma1_26 ?_
  refine lv_ior hx hb dX1_bigSigma1_27 ?_
  refine lv_ixor hx hb dX1_bigSigma1_28 ?_
  exact x_iret hx hb hr hlocks hw ⟨rfl, rfl⟩ dX1_bigSigma1_29

abbrev rmX1_paddedWord : Room := { frames := 1, cells := 0, slots := 0, locals := 21 }

set_option maxHeartbeats 4000000 in
set_option maxRecDepth 100000 in
theorem k_X1_paddedWord (l : Launch) (D : va_G) (ca : Nat → ClassId) (N : Nat) (ad : Nat → Nat) (B tR tK : Nat) (f : Nat → va_E) (dd : xD N ad B) (o : Nat) (v : Nat) (sz : Nat) (g : Nat → Int32) (j : Nat) (l_o : o < N) (c_o : f o = .inr (3, [.ref (ad v), .int (nI sz)])) (l_v : v < N) (c_v : f v = ai (ca 0) 200 g)  (hn : sz ≤ 200) (hj : j ≤ 100000) : xMi l yX1_paddedWord wsX1_paddedWord rmX1_paddedWord [.ref (ad o), .int (nI j)] D ca N ad B tR tK f (fun r u => pw sz g j 4 = r ∧ f = u) := by
  refine x_open (cc := cX1_paddedWord) (maxL := 6) (ret := (some .int)) (by decide) rfl (Nat.le_of_ble_eq_true rfl) ?_
  intro p e s m below meth c ls hx hb hml hown hts hr hlocks hnm hB hK hE hw hl
  have hown : s.vm.findClass RX1 = some m.cls := hown
  have hl : lv_has ls 6 [(0, .ref (ad o)), (1, .int (nI j))] := hl
  have b_o := c_o
  have b_v := c_v
  have P_10 : ∀ (n_10 : Nat) (i : Nat) (H : Heap) (locs : List Loc) (ls : Array Slot), 4 + 1 ≤ i + n_10 → (i ≤ 4) → xw D vwCl N ad B s.heap (f) H locs → lv_has ls 6 [(0, .ref (ad o)), (1, .int (nI j)), (2, .int (nI sz)), (3, .int (pw sz g j i)), (4, .int (nI i))] → W p l e rmX1_paddedWord s m ([.ref (ad o), .int (nI j)] : List Value).toArray below meth c H locs 0 0 (MQ below (xQi (fun r u => pw sz g j 4 = r ∧ f = u) D N ad B) ([.ref (ad o), .int (nI j)] : List Value).toArray s 0 0 (xA B)) (F0 m 10 ls []) := by
    intro n_10
    induction n_10 with
    | zero =>
      intro i H locs ls hm_10 hi hw hl
      exact absurd hm_10 (by omega)
    | succ n_10 ih_10 =>
      intro i H locs ls hm_10 hi hw hl
      have c_o := b_o
      have c_v := b_v
      refine lv_iload hx hb dX1_paddedWord_10 (lv_at hl 4 rfl) ?_
      refine lv_iconst (v := nI 4) hx hb dX1_paddedWord_12 (by decide) ?_
      refine n_icge (tgt := 52) hx hb dX1_paddedWord_13 (by decide) (by omega) (by omega) (fun c_13 => ?_) (fun c_13 => ?_)
      · refine lv_iload_n hx hb dX1_paddedWord_52 rfl (lv_at hl 3 rfl) ?_
        exact x_iret hx hb hr hlocks hw (by have e4 : i = 4 := (by omega); subst e4; exact ⟨rfl, rfl⟩) dX1_paddedWord_53
      · refine lv_iload_n hx hb dX1_paddedWord_16 rfl (lv_at hl 1 rfl) ?_
        refine lv_iload hx hb dX1_paddedWord_17 (lv_at hl 4 rfl) ?_
        refine n_iadd hx hb dX1_paddedWord_19 ?_
        refine lv_istore (lv' := [(5, .int (nI (j + i))), (0, .ref (ad o)), (1, .int (nI j)), (2, .int (nI sz)), (3, .int (pw sz g j i)), (4, .int (nI i))]) hx hb dX1_paddedWord_20 hl (by decide) rfl (fun ls hl => ?_)
        refine lv_iload_n hx hb dX1_paddedWord_22 rfl (lv_at hl 4 rfl) ?_
        refine lv_bipush (v := nI 8) hx hb dX1_paddedWord_23 (by decide) ?_
        refine lv_ishl hx hb dX1_paddedWord_25 ?_
        refine lv_iload hx hb dX1_paddedWord_26 (lv_at hl 0 rfl) ?_
        refine lv_iload_n hx hb dX1_paddedWord_28 rfl (lv_at hl 3 rfl) ?_
        refine n_icne (tgt := 38) hx hb dX1_paddedWord_29 (by decide) (by omega) (by omega) (fun c_29 => ?_) (fun c_29 => ?_)
        · rcases Nat.lt_or_ge (j + i) sz with hlt | hge
          · refine lv_aload_n hx hb dX1_paddedWord_38 rfl (lv_at hl 1 rfl) ?_
            refine lv_iload hx hb dX1_paddedWord_39 (lv_at hl 0 rfl) ?_
            refine x_Vi (q := o) (As := [.int (nI (j + i))]) (rest := [.int ((pw sz g j i) <<< ((nI 8) &&& 31))]) ⟨hx, hb, hml, hown, hts⟩ (k_X2_value_in l D ca N ad B tR tK f dd o v sz (j + i) g l_o c_o l_v c_v  (by omega) (by omega)) (cwV 1 hts gX1_paddedWord_X2_value rfl rfl rfl (by decide +kernel) ⟨Nat.le_of_ble_eq_true rfl, Nat.le_of_ble_eq_true rfl⟩) hK hE hB hw l_o c_o rfl rfl rfl rfl hl.1 (Nat.le_of_ble_eq_true rfl) ⟨Nat.zero_le _, Nat.zero_le _⟩ dX1_paddedWord_41 (fun r_2 f_1 H locs hp hw => ?_)
            obtain ⟨er, eu⟩ := hp
            rw [← er]
            rw [← eu] at hw
            refine lv_ior hx hb dX1_paddedWord_44 ?_
            refine lv_topi (fun x_3 ex_3 => ?_)
            refine lv_istore_n (lv' := [(3, .int x_3), (5, .int (nI (j + i))), (0, .ref (ad o)), (1, .int (nI j)), (2, .int (nI sz)), (4, .int (nI i))]) hx hb dX1_paddedWord_45 rfl hl (by decide) rfl (fun ls hl => ?_)
            refine lv_iinc (v := nI (i + 1)) (lv' := [(4, .int (nI (i + 1))), (3, .int x_3), (5, .int (nI (j + i))), (0, .ref (ad o)), (1, .int (nI j)), (2, .int (nI sz))]) hx hb dX1_paddedWord_46 hl (k := 5) rfl (by rw [show Int32.ofInt 1 = nI 1 from rfl]; exact nI_add _ _) (by decide) rfl (fun ls hl => ?_)
            refine lv_goto (tgt := 10) hx hb dX1_paddedWord_49 (by decide) ?_
            exact ih_10 (i + 1) _ _ _ (by omega) (by omega) hw (by have hl := lv_sub (l' := [(0, .ref (ad o)), (1, .int (nI j)), (2, .int (nI sz)), (3, .int x_3), (4, .int (nI (i + 1)))]) hl [3, 4, 5, 1, 0] rfl; rw [ex_3] at hl; first | (rw [pw_eq sz g j i c_29]; exact hl) | (rw [pw_in sz g j i hlt]; exact hl) | (rw [pw_out sz g j i (by omega)]; exact hl))
          · refine lv_aload_n hx hb dX1_paddedWord_38 rfl (lv_at hl 1 rfl) ?_
            refine lv_iload hx hb dX1_paddedWord_39 (lv_at hl 0 rfl) ?_
            refine x_Vi (q := o) (As := [.int (nI (j + i))]) (rest := [.int ((pw sz g j i) <<< ((nI 8) &&& 31))]) ⟨hx, hb, hml, hown, hts⟩ (k_X2_value_out l D ca N ad B tR tK f dd o v sz (nI (j + i)) l_o c_o  (Or.inr (nI_le hge (by omega)))) (cwV 1 hts gX1_paddedWord_X2_value rfl rfl rfl (by decide +kernel) ⟨Nat.le_of_ble_eq_true rfl, Nat.le_of_ble_eq_true rfl⟩) hK hE hB hw l_o c_o rfl rfl rfl rfl hl.1 (Nat.le_of_ble_eq_true rfl) ⟨Nat.zero_le _, Nat.zero_le _⟩ dX1_paddedWord_41 (fun r_5 f_4 H locs hp hw => ?_)
            obtain ⟨er, eu⟩ := hp
            rw [← er]
            rw [← eu] at hw
            refine lv_ior hx hb dX1_paddedWord_44 ?_
            refine lv_topi (fun x_6 ex_6 => ?_)
            refine lv_istore_n (lv' := [(3, .int x_6), (5, .int (nI (j + i))), (0, .ref (ad o)), (1, .int (nI j)), (2, .int (nI sz)), (4, .int (nI i))]) hx hb dX1_paddedWord_45 rfl hl (by decide) rfl (fun ls hl => ?_)
            refine lv_iinc (v := nI (i + 1)) (lv' := [(4, .int (nI (i + 1))), (3, .int x_6), (5, .int (nI (j + i))), (0, .ref (ad o)), (1, .int (nI j)), (2, .int (nI sz))]) hx hb dX1_paddedWord_46 hl (k := 5) rfl (by rw [show Int32.ofInt 1 = nI 1 from rfl]; exact nI_add _ _) (by decide) rfl (fun ls hl => ?_)
            refine lv_goto (tgt := 10) hx hb dX1_paddedWord_49 (by decide) ?_
            exact ih_10 (i + 1) _ _ _ (by omega) (by omega) hw (by have hl := lv_sub (l' := [(0, .ref (ad o)), (1, .int (nI j)), (2, .int (nI sz)), (3, .int x_6), (4, .int (nI (i + 1)))]) hl [3, 4, 5, 1, 0] rfl; rw [ex_6] at hl; first | (rw [pw_eq sz g j i c_29]; exact hl) | (rw [pw_in sz g j i hlt]; exact hl) | (rw [pw_out sz g j i (by omega)]; exact hl))
        · refine lv_sipush (v := nI 128) hx hb dX1_paddedWord_32 (by decide) ?_
          refine lv_goto (tgt := 44) hx hb dX1_paddedWord_35 (by decide) ?_
          refine lv_ior hx hb dX1_paddedWord_44 ?_
          refine lv_topi (fun x_7 ex_7 => ?_)
          refine lv_istore_n (lv' := [(3, .int x_7), (5, .int (nI (j + i))), (0, .ref (ad o)), (1, .int (nI j)), (2, .int (nI sz)), (4, .int (nI i))]) hx hb dX1_paddedWord_45 rfl hl (by decide) rfl (fun ls hl => ?_)
          refine lv_iinc (v := nI (i + 1)) (lv' := [(4, .int (nI (i + 1))), (3, .int x_7), (5, .int (nI (j + i))), (0, .ref (ad o)), (1, .int (nI j)), (2, .int (nI sz))]) hx hb dX1_paddedWord_46 hl (k := 5) rfl (by rw [show Int32.ofInt 1 = nI 1 from rfl]; exact nI_add _ _) (by decide) rfl (fun ls hl => ?_)
          refine lv_goto (tgt := 10) hx hb dX1_paddedWord_49 (by decide) ?_
          exact ih_10 (i + 1) _ _ _ (by omega) (by omega) hw (by have hl := lv_sub (l' := [(0, .ref (ad o)), (1, .int (nI j)), (2, .int (nI sz)), (3, .int x_7), (4, .int (nI (i + 1)))]) hl [3, 4, 5, 1, 0] rfl; rw [ex_7] at hl; first | (rw [pw_eq sz g j i c_29]; exact hl) | (rw [pw_in sz g j i hlt]; exact hl) | (rw [pw_out sz g j i (by omega)]; exact hl))
  refine lv_aload_n hx hb dX1_paddedWord_0 rfl (lv_at hl 0 rfl) ?_
  refine x_Vi (q := o) (As := []) (rest := []) ⟨hx, hb, hml, hown, hts⟩ (k_X2_count l D ca N ad B tR tK f dd o v sz l_o c_o  ) (cwV 0 hts gX1_paddedWord_X2_count rfl rfl rfl (by decide +kernel) ⟨Nat.le_of_ble_eq_true rfl, Nat.le_of_ble_eq_true rfl⟩) hK hE hB hw l_o c_o rfl rfl rfl rfl hl.1 (Nat.le_of_ble_eq_true rfl) ⟨Nat.zero_le _, Nat.zero_le _⟩ dX1_paddedWord_1 (fun r_9 f_8 H locs hp hw => ?_)
  obtain ⟨er, eu⟩ := hp
  rw [← er]
  rw [← eu] at hw
  refine lv_istore_n (lv' := [(2, .int (nI sz)), (0, .ref (ad o)), (1, .int (nI j))]) hx hb dX1_paddedWord_4 rfl hl (by decide) rfl (fun ls hl => ?_)
  refine lv_iconst (v := nI 0) hx hb dX1_paddedWord_5 (by decide) ?_
  refine lv_istore_n (lv' := [(3, .int (nI 0)), (2, .int (nI sz)), (0, .ref (ad o)), (1, .int (nI j))]) hx hb dX1_paddedWord_6 rfl hl (by decide) rfl (fun ls hl => ?_)
  refine lv_iconst (v := nI 0) hx hb dX1_paddedWord_7 (by decide) ?_
  refine lv_istore (lv' := [(4, .int (nI 0)), (3, .int (nI 0)), (2, .int (nI sz)), (0, .ref (ad o)), (1, .int (nI j))]) hx hb dX1_paddedWord_8 hl (by decide) rfl (fun ls hl => ?_)
  exact P_10 5 0 _ _ _ (by omega) (by omega) hw (lv_sub hl [3, 4, 2, 1, 0] rfl)

abbrev rmX1_widen : Room := { frames := 1, cells := 0, slots := 0, locals := 20 }

set_option maxHeartbeats 4000000 in
set_option maxRecDepth 100000 in
theorem k_X1_widen (l : Launch) (D : va_G) (ca : Nat → ClassId) (N : Nat) (ad : Nat → Nat) (B tR tK : Nat) (f : Nat → va_E) (dd : xD N ad B) (q : Nat) (a : Nat) (b : Nat) (w : Nat → Int32) (l_q : q < N) (c_q : f q = .inr (2, [.ref (ad a), .ref (ad b)])) (l_b : b < N) (c_b : f b = ai (ca 0) 64 w)   : xMv l yX1_widen wsX1_widen rmX1_widen [.ref (ad q)] D ca N ad B tR tK f (fun u => u = va_up f b (ai (ca 0) 64 (wid w 48))) := by
  refine x_open (cc := cX1_widen) (maxL := 2) (ret := none) (by decide) rfl (Nat.le_of_ble_eq_true rfl) ?_
  intro p e s m below meth c ls hx hb hml hown hts hr hlocks hnm hB hK hE hw hl
  have hown : s.vm.findClass RX1 = some m.cls := hown
  have hl : lv_has ls 2 [(0, .ref (ad q))] := hl
  have hin_2 : ∀ w ∈ u_ws RX1 TX1 2, w ∈ wsX1_widen := by decide +kernel
  have hf_15 := hts (.fieldLink RX1 15 "FixityRows$LongDigest" "w" "[I") (by decide +kernel)
  have b_q := c_q
  have b_b := c_b
  have P_3 : ∀ (n_3 : Nat) (i : Nat) (H : Heap) (locs : List Loc) (ls : Array Slot), 64 + 1 ≤ i + n_3 → (16 ≤ i) → (i ≤ 64) → xw D vwCl N ad B s.heap (va_up f b (ai (ca 0) 64 (wid w (i - 16)))) H locs → lv_has ls 2 [(0, .ref (ad q)), (1, .int (nI i))] → W p l e rmX1_widen s m ([.ref (ad q)] : List Value).toArray below meth c H locs 0 0 (MQ below (xQv (fun u => u = va_up f b (ai (ca 0) 64 (wid w 48))) D N ad B) ([.ref (ad q)] : List Value).toArray s 0 0 (xA B)) (F0 m 3 ls []) := by
    intro n_3
    induction n_3 with
    | zero =>
      intro i H locs ls hm_3 hi1 hi hw hl
      exact absurd hm_3 (by omega)
    | succ n_3 ih_3 =>
      intro i H locs ls hm_3 hi1 hi hw hl
      have c_q := b_q
      have c_b := b_b
      obtain ⟨f_1, ef_1⟩ : ∃ z, z = va_up f b (ai (ca 0) 64 (wid w (i - 16))) := ⟨_, rfl⟩
      have hw : xw D vwCl N ad B s.heap f_1 H locs := by rw [ef_1]; exact hw
      have c_b : f_1 b = ai (ca 0) 64 (wid w (i - 16)) := by rw [ef_1, va_up_self]
      refine lv_iload_n hx hb dX1_widen_3 rfl (lv_at hl 1 rfl) ?_
      refine lv_bipush (v := nI 64) hx hb dX1_widen_4 (by decide) ?_
      refine n_icge (tgt := 65) hx hb dX1_widen_6 (by decide) (by omega) (by omega) (fun c_6 => ?_) (fun c_6 => ?_)
      · exact x_vret hx hb hr hlocks hw (by have ei : i = 64 := (by omega); subst ei; simp only [ef_1]) dX1_widen_65
      · refine lv_aload_n hx hb dX1_widen_9 rfl (lv_at hl 0 rfl) ?_
        have c_q : f_1 q = .inr (2, [.ref (ad a), .ref (ad b)]) := by rw [ef_1, va_up_ne _ _ (kd_ne' b_b b_q)]; exact c_q
        refine x_get (ci := 2) (C := RX1) (T := TX1) (n := 2) (ref := RX1) hx hb hts hin_2 hown hK hw q l_q c_q rfl 1 (by decide) hf_15 (fun _ h => h) rfl dX1_widen_10 ?_
        refine lv_iload_n hx hb dX1_widen_13 rfl (lv_at hl 1 rfl) ?_
        refine lv_aload_n hx hb dX1_widen_14 rfl (lv_at hl 0 rfl) ?_
        refine x_get (ci := 2) (C := RX1) (T := TX1) (n := 2) (ref := RX1) hx hb hts hin_2 hown hK hw q l_q c_q rfl 1 (by decide) hf_15 (fun _ h => h) rfl dX1_widen_15 ?_
        refine lv_iload_n hx hb dX1_widen_18 rfl (lv_at hl 1 rfl) ?_
        refine lv_bipush (v := nI 16) hx hb dX1_widen_19 (by decide) ?_
        refine n_isub hx hb dX1_widen_21 (by omega) ?_
        refine x_iald (j := i - 16) hx hb hK hw b 0 l_b c_b rfl rfl (by omega) (by decide) dX1_widen_22 ?_
        refine lv_aload_n hx hb dX1_widen_23 rfl (lv_at hl 0 rfl) ?_
        refine x_get (ci := 2) (C := RX1) (T := TX1) (n := 2) (ref := RX1) hx hb hts hin_2 hown hK hw q l_q c_q rfl 1 (by decide) hf_15 (fun _ h => h) rfl dX1_widen_24 ?_
        refine lv_iload_n hx hb dX1_widen_27 rfl (lv_at hl 1 rfl) ?_
        refine lv_bipush (v := nI 15) hx hb dX1_widen_28 (by decide) ?_
        refine n_isub hx hb dX1_widen_30 (by omega) ?_
        refine x_iald (j := i - 15) hx hb hK hw b 0 l_b c_b rfl rfl (by omega) (by decide) dX1_widen_31 ?_
        refine lv_topi (fun x_2 ex_2 => ?_)
        refine x_Si (As := [.int x_2]) (rest := [.int ((wid w (i - 16)) (i - 16)), .int (nI i), .ref (ad b)]) ⟨hx, hb, hml, hown, hts⟩ (k_X1_smallSigma0 l D ca N ad B tR tK f_1 dd x_2   ) (va_cwS 1 hts gX1_widen_X1_smallSigma0 rfl rfl rfl (by decide +kernel) ⟨Nat.le_of_ble_eq_true rfl, Nat.le_of_ble_eq_true rfl⟩) hK hE hB hw rfl rfl hl.1 (Nat.le_of_ble_eq_true rfl) ⟨Nat.zero_le _, Nat.zero_le _⟩ dX1_widen_32 (fun r_4 f_3 H locs hp hw => ?_)
        obtain ⟨er, eu⟩ := hp
        rw [← er]
        rw [← eu] at hw
        refine lv_iadd hx hb dX1_widen_35 ?_
        refine lv_aload_n hx hb dX1_widen_36 rfl (lv_at hl 0 rfl) ?_
        refine x_get (ci := 2) (C := RX1) (T := TX1) (n := 2) (ref := RX1) hx hb hts hin_2 hown hK hw q l_q c_q rfl 1 (by decide) hf_15 (fun _ h => h) rfl dX1_widen_37 ?_
        refine lv_iload_n hx hb dX1_widen_40 rfl (lv_at hl 1 rfl) ?_
        refine lv_bipush (v := nI 7) hx hb dX1_widen_41 (by decide) ?_
        refine n_isub hx hb dX1_widen_43 (by omega) ?_
        refine x_iald (j := i - 7) hx hb hK hw b 0 l_b c_b rfl rfl (by omega) (by decide) dX1_widen_44 ?_
        refine lv_iadd hx hb dX1_widen_45 ?_
        refine lv_aload_n hx hb dX1_widen_46 rfl (lv_at hl 0 rfl) ?_
        refine x_get (ci := 2) (C := RX1) (T := TX1) (n := 2) (ref := RX1) hx hb hts hin_2 hown hK hw q l_q c_q rfl 1 (by decide) hf_15 (fun _ h => h) rfl dX1_widen_47 ?_
        refine lv_iload_n hx hb dX1_widen_50 rfl (lv_at hl 1 rfl) ?_
        refine lv_iconst (v := nI 2) hx hb dX1_widen_51 (by decide) ?_
        refine n_isub hx hb dX1_widen_52 (by omega) ?_
        refine x_iald (j := i - 2) hx hb hK hw b 0 l_b c_b rfl rfl (by omega) (by decide) dX1_widen_53 ?_
        refine lv_topi (fun x_5 ex_5 => ?_)
        refine x_Si (As := [.int x_5]) (rest := [.int ((((wid w (i - 16)) (i - 16)) + (sg0 x_2)) + ((wid w (i - 16)) (i - 7))), .int (nI i), .ref (ad b)]) ⟨hx, hb, hml, hown, hts⟩ (k_X1_smallSigma1 l D ca N ad B tR tK f_1 dd x_5   ) (va_cwS 1 hts gX1_widen_X1_smallSigma1 rfl rfl rfl (by decide +kernel) ⟨Nat.le_of_ble_eq_true rfl, Nat.le_of_ble_eq_true rfl⟩) hK hE hB hw rfl rfl hl.1 (Nat.le_of_ble_eq_true rfl) ⟨Nat.zero_le _, Nat.zero_le _⟩ dX1_widen_54 (fun r_7 f_6 H locs hp hw => ?_)
        obtain ⟨er, eu⟩ := hp
        rw [← er]
        rw [← eu] at hw
        refine lv_iadd hx hb dX1_widen_57 ?_
        refine lv_topi (fun x_8 ex_8 => ?_)
        refine x_iast (j := i) hx hb hK dd hw b 0 l_b c_b rfl rfl (by omega) (by decide) dX1_widen_58 (fun H locs hw => ?_)
        obtain ⟨f_9, ef_9⟩ : ∃ z, z = va_up f_1 b (ai (ca 0) 64 (upd (wid w (i - 16)) i x_8)) := ⟨_, rfl⟩
        have hw : xw D vwCl N ad B s.heap f_9 H locs := by rw [ef_9]; exact hw
        have c_b : f_9 b = ai (ca 0) 64 (upd (wid w (i - 16)) i x_8) := va_up_of ef_9
        refine lv_iinc (v := nI (i + 1)) (lv' := [(1, .int (nI (i + 1))), (0, .ref (ad q))]) hx hb dX1_widen_59 hl (k := 1) rfl (by rw [show Int32.ofInt 1 = nI 1 from rfl]; exact nI_add _ _) (by decide) rfl (fun ls hl => ?_)
        refine lv_goto (tgt := 3) hx hb dX1_widen_62 (by decide) ?_
        have hw : xw D vwCl N ad B s.heap (va_up f b (ai (ca 0) 64 (wid w ((i + 1) - 16)))) H locs := by
          have ez : f_9 = va_up f b (ai (ca 0) 64 (wid w ((i + 1) - 16))) := by simp only [ef_9, ex_8, ex_5, ex_2, ef_1, up_aa]; rw [← wid_step w i hi1]; rfl
          rw [← ez]; exact hw
        exact ih_3 (i + 1) _ _ _ (by omega) (by omega) (by omega) hw (lv_sub hl [1, 0] rfl)
  refine lv_bipush (v := nI 16) hx hb dX1_widen_0 (by decide) ?_
  refine lv_istore_n (lv' := [(1, .int (nI 16)), (0, .ref (ad q))]) hx hb dX1_widen_2 rfl hl (by decide) rfl (fun ls hl => ?_)
  have hw : xw D vwCl N ad B s.heap (va_up f b (ai (ca 0) 64 (wid w (16 - 16)))) s.heap [] := by
    have ez : f = va_up f b (ai (ca 0) 64 (wid w (16 - 16))) := by (show f = va_up f b (ai (ca 0) 64 w)); rw [← c_b, up_same]
    rw [← ez]; exact hw
  exact P_3 65 16 _ _ _ (by omega) (by omega) (by omega) hw (lv_sub hl [1, 0] rfl)

abbrev rmX1_mix : Room := { frames := 1, cells := 0, slots := 0, locals := 20 }

set_option maxHeartbeats 4000000 in
set_option maxRecDepth 100000 in
theorem k_X1_mix (l : Launch) (D : va_G) (ca : Nat → ClassId) (N : Nat) (ad : Nat → Nat) (B tR tK : Nat) (f : Nat → va_E) (dd : xD N ad B) (q : Nat) (a : Nat) (b : Nat) (e0 : Nat → Int32) (w : Nat → Int32) (l_q : q < N) (c_q : f q = .inr (2, [.ref (ad a), .ref (ad b)])) (l_a : a < N) (c_a : f a = ai (ca 0) 8 e0) (l_b : b < N) (c_b : f b = ai (ca 0) 64 w)  (nab : a ≠ b) : xMv l yX1_mix wsX1_mix rmX1_mix [.ref (ad q)] D ca N ad B tR tK f (fun u => u = va_up f a (ai (ca 0) 8 (mixTo e0 (rd e0 w 64) 8))) := by
  refine x_open (cc := cX1_mix) (maxL := 12) (ret := none) (by decide) rfl (Nat.le_of_ble_eq_true rfl) ?_
  intro p e s m below meth c ls hx hb hml hown hts hr hlocks hnm hB hK hE hw hl
  have hown : s.vm.findClass RX1 = some m.cls := hown
  have hl : lv_has ls 12 [(0, .ref (ad q))] := hl
  have hin_2 : ∀ w ∈ u_ws RX1 TX1 2, w ∈ wsX1_mix := by decide +kernel
  have hf_9 := hts (.fieldLink RX1 9 "FixityRows$LongDigest" "eight" "[I") (by decide +kernel)
  have hf_50 := hts (.fieldLink RX1 50 "FixityRows$LongDigest" "K" "[I") (by decide +kernel)
  have hf_15 := hts (.fieldLink RX1 15 "FixityRows$LongDigest" "w" "[I") (by decide +kernel)
  have b_q := c_q
  have b_a := c_a
  have b_b := c_b
  have P_66 : ∀ (n_66 : Nat) (i : Nat) (H : Heap) (locs : List Loc) (ls : Array Slot), 64 + 1 ≤ i + n_66 → (i ≤ 64) → xw D vwCl N ad B s.heap (f) H locs → lv_has ls 12 [(0, .ref (ad q)), (1, .int (rd e0 w i 0)), (2, .int (rd e0 w i 1)), (3, .int (rd e0 w i 2)), (4, .int (rd e0 w i 3)), (5, .int (rd e0 w i 4)), (6, .int (rd e0 w i 5)), (7, .int (rd e0 w i 6)), (8, .int (rd e0 w i 7)), (9, .int (nI i))] → W p l e rmX1_mix s m ([.ref (ad q)] : List Value).toArray below meth c H locs 0 0 (MQ below (xQv (fun u => u = va_up f a (ai (ca 0) 8 (mixTo e0 (rd e0 w 64) 8))) D N ad B) ([.ref (ad q)] : List Value).toArray s 0 0 (xA B)) (F0 m 66 ls []) := by
    intro n_66
    induction n_66 with
    | zero =>
      intro i H locs ls hm_66 hi hw hl
      exact absurd hm_66 (by omega)
    | succ n_66 ih_66 =>
      intro i H locs ls hm_66 hi hw hl
      have c_q := b_q
      have c_a := b_a
      have c_b := b_b
      refine lv_iload hx hb dX1_mix_66 (lv_at hl 9 rfl) ?_
      refine lv_bipush (v := nI 64) hx hb dX1_mix_68 (by decide) ?_
      refine n_icge (tgt := 168) hx hb dX1_mix_70 (by decide) (by omega) (by omega) (fun c_70 => ?_) (fun c_70 => ?_)
      · refine lv_aload_n hx hb dX1_mix_168 rfl (lv_at hl 0 rfl) ?_
        refine x_get (ci := 2) (C := RX1) (T := TX1) (n := 2) (ref := RX1) hx hb hts hin_2 hown hK hw q l_q c_q rfl 0 (by decide) hf_9 (fun _ h => h) rfl dX1_mix_169 ?_
        refine lv_iconst (v := nI 0) hx hb dX1_mix_172 (by decide) ?_
        refine lv_dup2_11 hx hb dX1_mix_173 rfl rfl ?_
        refine x_iald (j := 0) hx hb hK hw a 0 l_a c_a rfl rfl (by omega) (by decide) dX1_mix_174 ?_
        refine lv_iload_n hx hb dX1_mix_175 rfl (lv_at hl 1 rfl) ?_
        refine lv_iadd hx hb dX1_mix_176 ?_
        refine lv_topi (fun x_1 ex_1 => ?_)
        refine x_iast (j := 0) hx hb hK dd hw a 0 l_a c_a rfl rfl (by omega) (by decide) dX1_mix_177 (fun H locs hw => ?_)
        obtain ⟨f_2, ef_2⟩ : ∃ z, z = va_up f a (ai (ca 0) 8 (upd e0 0 x_1)) := ⟨_, rfl⟩
        have hw : xw D vwCl N ad B s.heap f_2 H locs := by rw [ef_2]; exact hw
        have c_a : f_2 a = ai (ca 0) 8 (upd e0 0 x_1) := va_up_of ef_2
        refine lv_aload_n hx hb dX1_mix_178 rfl (lv_at hl 0 rfl) ?_
        have c_q : f_2 q = .inr (2, [.ref (ad a), .ref (ad b)]) := by rw [ef_2, va_up_ne _ _ (kd_ne' b_a b_q)]; exact c_q
        refine x_get (ci := 2) (C := RX1) (T := TX1) (n := 2) (ref := RX1) hx hb hts hin_2 hown hK hw q l_q c_q rfl 0 (by decide) hf_9 (fun _ h => h) rfl dX1_mix_179 ?_
        refine lv_iconst (v := nI 1) hx hb dX1_mix_182 (by decide) ?_
        refine lv_dup2_11 hx hb dX1_mix_183 rfl rfl ?_
        refine x_iald (j := 1) hx hb hK hw a 0 l_a c_a rfl rfl (by omega) (by decide) dX1_mix_184 ?_
        refine lv_iload_n hx hb dX1_mix_185 rfl (lv_at hl 2 rfl) ?_
        refine lv_iadd hx hb dX1_mix_186 ?_
        refine lv_topi (fun x_3 ex_3 => ?_)
        refine x_iast (j := 1) hx hb hK dd hw a 0 l_a c_a rfl rfl (by omega) (by decide) dX1_mix_187 (fun H locs hw => ?_)
        obtain ⟨f_4, ef_4⟩ : ∃ z, z = va_up f_2 a (ai (ca 0) 8 (upd (upd e0 0 x_1) 1 x_3)) := ⟨_, rfl⟩
        have hw : xw D vwCl N ad B s.heap f_4 H locs := by rw [ef_4]; exact hw
        have c_a : f_4 a = ai (ca 0) 8 (upd (upd e0 0 x_1) 1 x_3) := va_up_of ef_4
        refine lv_aload_n hx hb dX1_mix_188 rfl (lv_at hl 0 rfl) ?_
        have c_q : f_4 q = .inr (2, [.ref (ad a), .ref (ad b)]) := by rw [ef_4, va_up_ne _ _ (kd_ne' b_a b_q)]; exact c_q
        refine x_get (ci := 2) (C := RX1) (T := TX1) (n := 2) (ref := RX1) hx hb hts hin_2 hown hK hw q l_q c_q rfl 0 (by decide) hf_9 (fun _ h => h) rfl dX1_mix_189 ?_
        refine lv_iconst (v := nI 2) hx hb dX1_mix_192 (by decide) ?_
        refine lv_dup2_11 hx hb dX1_mix_193 rfl rfl ?_
        refine x_iald (j := 2) hx hb hK hw a 0 l_a c_a rfl rfl (by omega) (by decide) dX1_mix_194 ?_
        refine lv_iload_n hx hb dX1_mix_195 rfl (lv_at hl 3 rfl) ?_
        refine lv_iadd hx hb dX1_mix_196 ?_
        refine lv_topi (fun x_5 ex_5 => ?_)
        refine x_iast (j := 2) hx hb hK dd hw a 0 l_a c_a rfl rfl (by omega) (by decide) dX1_mix_197 (fun H locs hw => ?_)
        obtain ⟨f_6, ef_6⟩ : ∃ z, z = va_up f_4 a (ai (ca 0) 8 (upd (upd (upd e0 0 x_1) 1 x_3) 2 x_5)) := ⟨_, rfl⟩
        have hw : xw D vwCl N ad B s.heap f_6 H locs := by rw [ef_6]; exact hw
        have c_a : f_6 a = ai (ca 0) 8 (upd (upd (upd e0 0 x_1) 1 x_3) 2 x_5) := va_up_of ef_6
        refine lv_aload_n hx hb dX1_mix_198 rfl (lv_at hl 0 rfl) ?_
        have c_q : f_6 q = .inr (2, [.ref (ad a), .ref (ad b)]) := by rw [ef_6, va_up_ne _ _ (kd_ne' b_a b_q)]; exact c_q
        refine x_get (ci := 2) (C := RX1) (T := TX1) (n := 2) (ref := RX1) hx hb hts hin_2 hown hK hw q l_q c_q rfl 0 (by decide) hf_9 (fun _ h => h) rfl dX1_mix_199 ?_
        refine lv_iconst (v := nI 3) hx hb dX1_mix_202 (by decide) ?_
        refine lv_dup2_11 hx hb dX1_mix_203 rfl rfl ?_
        refine x_iald (j := 3) hx hb hK hw a 0 l_a c_a rfl rfl (by omega) (by decide) dX1_mix_204 ?_
        refine lv_iload hx hb dX1_mix_205 (lv_at hl 4 rfl) ?_
        refine lv_iadd hx hb dX1_mix_207 ?_
        refine lv_topi (fun x_7 ex_7 => ?_)
        refine x_iast (j := 3) hx hb hK dd hw a 0 l_a c_a rfl rfl (by omega) (by decide) dX1_mix_208 (fun H locs hw => ?_)
        obtain ⟨f_8, ef_8⟩ : ∃ z, z = va_up f_6 a (ai (ca 0) 8 (upd (upd (upd (upd e0 0 x_1) 1 x_3) 2 x_5) 3 x_7)) := ⟨_, rfl⟩
        have hw : xw D vwCl N ad B s.heap f_8 H locs := by rw [ef_8]; exact hw
        have c_a : f_8 a = ai (ca 0) 8 (upd (upd (upd (upd e0 0 x_1) 1 x_3) 2 x_5) 3 x_7) := va_up_of ef_8
        refine lv_aload_n hx hb dX1_mix_209 rfl (lv_at hl 0 rfl) ?_
        have c_q : f_8 q = .inr (2, [.ref (ad a), .ref (ad b)]) := by rw [ef_8, va_up_ne _ _ (kd_ne' b_a b_q)]; exact c_q
        refine x_get (ci := 2) (C := RX1) (T := TX1) (n := 2) (ref := RX1) hx hb hts hin_2 hown hK hw q l_q c_q rfl 0 (by decide) hf_9 (fun _ h => h) rfl dX1_mix_210 ?_
        refine lv_iconst (v := nI 4) hx hb dX1_mix_213 (by decide) ?_
        refine lv_dup2_11 hx hb dX1_mix_214 rfl rfl ?_
        refine x_iald (j := 4) hx hb hK hw a 0 l_a c_a rfl rfl (by omega) (by decide) dX1_mix_215 ?_
        refine lv_iload hx hb dX1_mix_216 (lv_at hl 5 rfl) ?_
        refine lv_iadd hx hb dX1_mix_218 ?_
        refine lv_topi (fun x_9 ex_9 => ?_)
        refine x_iast (j := 4) hx hb hK dd hw a 0 l_a c_a rfl rfl (by omega) (by decide) dX1_mix_219 (fun H locs hw => ?_)
        obtain ⟨f_10, ef_10⟩ : ∃ z, z = va_up f_8 a (ai (ca 0) 8 (upd (upd (upd (upd (upd e0 0 x_1) 1 x_3) 2 x_5) 3 x_7) 4 x_9)) := ⟨_, rfl⟩
        have hw : xw D vwCl N ad B s.heap f_10 H locs := by rw [ef_10]; exact hw
        have c_a : f_10 a = ai (ca 0) 8 (upd (upd (upd (upd (upd e0 0 x_1) 1 x_3) 2 x_5) 3 x_7) 4 x_9) := va_up_of ef_10
        refine lv_aload_n hx hb dX1_mix_220 rfl (lv_at hl 0 rfl) ?_
        have c_q : f_10 q = .inr (2, [.ref (ad a), .ref (ad b)]) := by rw [ef_10, va_up_ne _ _ (kd_ne' b_a b_q)]; exact c_q
        refine x_get (ci := 2) (C := RX1) (T := TX1) (n := 2) (ref := RX1) hx hb hts hin_2 hown hK hw q l_q c_q rfl 0 (by decide) hf_9 (fun _ h => h) rfl dX1_mix_221 ?_
        refine lv_iconst (v := nI 5) hx hb dX1_mix_224 (by decide) ?_
        refine lv_dup2_11 hx hb dX1_mix_225 rfl rfl ?_
        refine x_iald (j := 5) hx hb hK hw a 0 l_a c_a rfl rfl (by omega) (by decide) dX1_mix_226 ?_
        refine lv_iload hx hb dX1_mix_227 (lv_at hl 6 rfl) ?_
        refine lv_iadd hx hb dX1_mix_229 ?_
        refine lv_topi (fun x_11 ex_11 => ?_)
        refine x_iast (j := 5) hx hb hK dd hw a 0 l_a c_a rfl rfl (by omega) (by decide) dX1_mix_230 (fun H locs hw => ?_)
        obtain ⟨f_12, ef_12⟩ : ∃ z, z = va_up f_10 a (ai (ca 0) 8 (upd (upd (upd (upd (upd (upd e0 0 x_1) 1 x_3) 2 x_5) 3 x_7) 4 x_9) 5 x_11)) := ⟨_, rfl⟩
        have hw : xw D vwCl N ad B s.heap f_12 H locs := by rw [ef_12]; exact hw
        have c_a : f_12 a = ai (ca 0) 8 (upd (upd (upd (upd (upd (upd e0 0 x_1) 1 x_3) 2 x_5) 3 x_7) 4 x_9) 5 x_11) := va_up_of ef_12
        refine lv_aload_n hx hb dX1_mix_231 rfl (lv_at hl 0 rfl) ?_
        have c_q : f_12 q = .inr (2, [.ref (ad a), .ref (ad b)]) := by rw [ef_12, va_up_ne _ _ (kd_ne' b_a b_q)]; exact c_q
        refine x_get (ci := 2) (C := RX1) (T := TX1) (n := 2) (ref := RX1) hx hb hts hin_2 hown hK hw q l_q c_q rfl 0 (by decide) hf_9 (fun _ h => h) rfl dX1_mix_232 ?_
        refine lv_bipush (v := nI 6) hx hb dX1_mix_235 (by decide) ?_
        refine lv_dup2_11 hx hb dX1_mix_237 rfl rfl ?_
        refine x_iald (j := 6) hx hb hK hw a 0 l_a c_a rfl rfl (by omega) (by decide) dX1_mix_238 ?_
        refine lv_iload hx hb dX1_mix_239 (lv_at hl 7 rfl) ?_
        refine lv_iadd hx hb dX1_mix_241 ?_
        refine lv_topi (fun x_13 ex_13 => ?_)
        refine x_iast (j := 6) hx hb hK dd hw a 0 l_a c_a rfl rfl (by omega) (by decide) dX1_mix_242 (fun H locs hw => ?_)
        obtain ⟨f_14, ef_14⟩ : ∃ z, z = va_up f_12 a (ai (ca 0) 8 (upd (upd (upd (upd (upd (upd (upd e0 0 x_1) 1 x_3) 2 x_5) 3 x_7) 4 x_9) 5 x_11) 6 x_13)) := ⟨_, rfl⟩
        have hw : xw D vwCl N ad B s.heap f_14 H locs := by rw [ef_14]; exact hw
        have c_a : f_14 a = ai (ca 0) 8 (upd (upd (upd (upd (upd (upd (upd e0 0 x_1) 1 x_3) 2 x_5) 3 x_7) 4 x_9) 5 x_11) 6 x_13) := va_up_of ef_14
        refine lv_aload_n hx hb dX1_mix_243 rfl (lv_at hl 0 rfl) ?_
        have c_q : f_14 q = .inr (2, [.ref (ad a), .ref (ad b)]) := by rw [ef_14, va_up_ne _ _ (kd_ne' b_a b_q)]; exact c_q
        refine x_get (ci := 2) (C := RX1) (T := TX1) (n := 2) (ref := RX1) hx hb hts hin_2 hown hK hw q l_q c_q rfl 0 (by decide) hf_9 (fun _ h => h) rfl dX1_mix_244 ?_
        refine lv_bipush (v := nI 7) hx hb dX1_mix_247 (by decide) ?_
        refine lv_dup2_11 hx hb dX1_mix_249 rfl rfl ?_
        refine x_iald (j := 7) hx hb hK hw a 0 l_a c_a rfl rfl (by omega) (by decide) dX1_mix_250 ?_
        refine lv_iload hx hb dX1_mix_251 (lv_at hl 8 rfl) ?_
        refine lv_iadd hx hb dX1_mix_253 ?_
        refine lv_topi (fun x_15 ex_15 => ?_)
        refine x_iast (j := 7) hx hb hK dd hw a 0 l_a c_a rfl rfl (by omega) (by decide) dX1_mix_254 (fun H locs hw => ?_)
        obtain ⟨f_16, ef_16⟩ : ∃ z, z = va_up f_14 a (ai (ca 0) 8 (upd (upd (upd (upd (upd (upd (upd (upd e0 0 x_1) 1 x_3) 2 x_5) 3 x_7) 4 x_9) 5 x_11) 6 x_13) 7 x_15)) := ⟨_, rfl⟩
        have hw : xw D vwCl N ad B s.heap f_16 H locs := by rw [ef_16]; exact hw
        have c_a : f_16 a = ai (ca 0) 8 (upd (upd (upd (upd (upd (upd (upd (upd e0 0 x_1) 1 x_3) 2 x_5) 3 x_7) 4 x_9) 5 x_11) 6 x_13) 7 x_15) := va_up_of ef_16
        exact x_vret hx hb hr hlocks hw (by have ei : i = 64 := (by omega); subst ei; simp only [ef_16, ex_15, ef_14, ex_13, ef_12, ex_11, ef_10, ex_9, ef_8, ex_7, ef_6, ex_5, ef_4, ex_3, ef_2, ex_1, up_aa]; rfl) dX1_mix_255
      · refine lv_iload hx hb dX1_mix_73 (lv_at hl 8 rfl) ?_
        refine lv_iload hx hb dX1_mix_75 (lv_at hl 5 rfl) ?_
        refine lv_topi (fun x_17 ex_17 => ?_)
        refine x_Si (As := [.int x_17]) (rest := [.int (rd e0 w i 7)]) ⟨hx, hb, hml, hown, hts⟩ (k_X1_bigSigma1 l D ca N ad B tR tK f dd x_17   ) (va_cwS 1 hts gX1_mix_X1_bigSigma1 rfl rfl rfl (by decide +kernel) ⟨Nat.le_of_ble_eq_true rfl, Nat.le_of_ble_eq_true rfl⟩) hK hE hB hw rfl rfl hl.1 (Nat.le_of_ble_eq_true rfl) ⟨Nat.zero_le _, Nat.zero_le _⟩ dX1_mix_77 (fun r_19 f_18 H locs hp hw => ?_)
        obtain ⟨er, eu⟩ := hp
        rw [← er]
        rw [← eu] at hw
        refine lv_iadd hx hb dX1_mix_80 ?_
        refine lv_iload hx hb dX1_mix_81 (lv_at hl 5 rfl) ?_
        refine lv_iload hx hb dX1_mix_83 (lv_at hl 6 rfl) ?_
        refine lv_iand hx hb dX1_mix_85 ?_
        refine lv_iload hx hb dX1_mix_86 (lv_at hl 5 rfl) ?_
        refine lv_iconst (v := (-1)) hx hb dX1_mix_88 (by decide) ?_
        refine lv_ixor hx hb dX1_mix_89 ?_
        refine lv_iload hx hb dX1_mix_90 (lv_at hl 7 rfl) ?_
        refine lv_iand hx hb dX1_mix_92 ?_
        refine lv_ixor hx hb dX1_mix_93 ?_
        refine lv_iadd hx hb dX1_mix_94 ?_
        refine x_kays hx hb hE hw hown hf_50 dX1_mix_95 ?_
        refine lv_iload hx hb dX1_mix_98 (lv_at hl 9 rfl) ?_
        refine x_kay hx hb hE hw (rfl : nI i = nI i) (by omega) dX1_mix_100 ?_
        refine lv_iadd hx hb dX1_mix_101 ?_
        refine lv_aload_n hx hb dX1_mix_102 rfl (lv_at hl 0 rfl) ?_
        refine x_get (ci := 2) (C := RX1) (T := TX1) (n := 2) (ref := RX1) hx hb hts hin_2 hown hK hw q l_q c_q rfl 1 (by decide) hf_15 (fun _ h => h) rfl dX1_mix_103 ?_
        refine lv_iload hx hb dX1_mix_106 (lv_at hl 9 rfl) ?_
        refine x_iald (j := i) hx hb hK hw b 0 l_b c_b rfl rfl (by omega) (by decide) dX1_mix_108 ?_
        refine lv_iadd hx hb dX1_mix_109 ?_
        refine lv_topi (fun x_20 ex_20 => ?_)
        refine lv_istore (lv' := [(10, .int x_20), (0, .ref (ad q)), (1, .int (rd e0 w i 0)), (2, .int (rd e0 w i 1)), (3, .int (rd e0 w i 2)), (4, .int (rd e0 w i 3)), (5, .int (rd e0 w i 4)), (6, .int (rd e0 w i 5)), (7, .int (rd e0 w i 6)), (8, .int (rd e0 w i 7)), (9, .int (nI i))]) hx hb dX1_mix_110 hl (by decide) rfl (fun ls hl => ?_)
        refine lv_iload_n hx hb dX1_mix_112 rfl (lv_at hl 2 rfl) ?_
        refine lv_topi (fun x_21 ex_21 => ?_)
        refine x_Si (As := [.int x_21]) (rest := []) ⟨hx, hb, hml, hown, hts⟩ (k_X1_bigSigma0 l D ca N ad B tR tK f dd x_21   ) (va_cwS 1 hts gX1_mix_X1_bigSigma0 rfl rfl rfl (by decide +kernel) ⟨Nat.le_of_ble_eq_true rfl, Nat.le_of_ble_eq_true rfl⟩) hK hE hB hw rfl rfl hl.1 (Nat.le_of_ble_eq_true rfl) ⟨Nat.zero_le _, Nat.zero_le _⟩ dX1_mix_113 (fun r_23 f_22 H locs hp hw => ?_)
        obtain ⟨er, eu⟩ := hp
        rw [← er]
        rw [← eu] at hw
        refine lv_iload_n hx hb dX1_mix_116 rfl (lv_at hl 2 rfl) ?_
        refine lv_iload_n hx hb dX1_mix_117 rfl (lv_at hl 3 rfl) ?_
        refine lv_iand hx hb dX1_mix_118 ?_
        refine lv_iload_n hx hb dX1_mix_119 rfl (lv_at hl 2 rfl) ?_
        refine lv_iload_n hx hb dX1_mix_120 rfl (lv_at hl 4 rfl) ?_
        refine lv_iand hx hb dX1_mix_121 ?_
        refine lv_ixor hx hb dX1_mix_122 ?_
        refine lv_iload_n hx hb dX1_mix_123 rfl (lv_at hl 3 rfl) ?_
        refine lv_iload_n hx hb dX1_mix_124 rfl (lv_at hl 4 rfl) ?_
        refine lv_iand hx hb dX1_mix_125 ?_
        refine lv_ixor hx hb dX1_mix_126 ?_
        refine lv_iadd hx hb dX1_mix_127 ?_
        refine lv_topi (fun x_24 ex_24 => ?_)
        refine lv_istore (lv' := [(11, .int x_24), (10, .int x_20), (0, .ref (ad q)), (1, .int (rd e0 w i 0)), (2, .int (rd e0 w i 1)), (3, .int (rd e0 w i 2)), (4, .int (rd e0 w i 3)), (5, .int (rd e0 w i 4)), (6, .int (rd e0 w i 5)), (7, .int (rd e0 w i 6)), (8, .int (rd e0 w i 7)), (9, .int (nI i))]) hx hb dX1_mix_128 hl (by decide) rfl (fun ls hl => ?_)
        refine lv_iload hx hb dX1_mix_130 (lv_at hl 9 rfl) ?_
        refine lv_topi (fun x_25 ex_25 => ?_)
        refine lv_istore (lv' := [(8, .int x_25), (11, .int x_24), (10, .int x_20), (0, .ref (ad q)), (1, .int (rd e0 w i 0)), (2, .int (rd e0 w i 1)), (3, .int (rd e0 w i 2)), (4, .int (rd e0 w i 3)), (5, .int (rd e0 w i 4)), (6, .int (rd e0 w i 5)), (7, .int (rd e0 w i 6)), (9, .int (nI i))]) hx hb dX1_mix_132 hl (by decide) rfl (fun ls hl => ?_)
        refine lv_iload hx hb dX1_mix_134 (lv_at hl 9 rfl) ?_
        refine lv_topi (fun x_26 ex_26 => ?_)
        refine lv_istore (lv' := [(7, .int x_26), (8, .int x_25), (11, .int x_24), (10, .int x_20), (0, .ref (ad q)), (1, .int (rd e0 w i 0)), (2, .int (rd e0 w i 1)), (3, .int (rd e0 w i 2)), (4, .int (rd e0 w i 3)), (5, .int (rd e0 w i 4)), (6, .int (rd e0 w i 5)), (9, .int (nI i))]) hx hb dX1_mix_136 hl (by decide) rfl (fun ls hl => ?_)
        refine lv_iload hx hb dX1_mix_138 (lv_at hl 9 rfl) ?_
        refine lv_topi (fun x_27 ex_27 => ?_)
        refine lv_istore (lv' := [(6, .int x_27), (7, .int x_26), (8, .int x_25), (11, .int x_24), (10, .int x_20), (0, .ref (ad q)), (1, .int (rd e0 w i 0)), (2, .int (rd e0 w i 1)), (3, .int (rd e0 w i 2)), (4, .int (rd e0 w i 3)), (5, .int (rd e0 w i 4)), (9, .int (nI i))]) hx hb dX1_mix_140 hl (by decide) rfl (fun ls hl => ?_)
        refine lv_iload hx hb dX1_mix_142 (lv_at hl 9 rfl) ?_
        refine lv_iload hx hb dX1_mix_144 (lv_at hl 4 rfl) ?_
        refine lv_iadd hx hb dX1_mix_146 ?_
        refine lv_topi (fun x_28 ex_28 => ?_)
        refine lv_istore (lv' := [(5, .int x_28), (6, .int x_27), (7, .int x_26), (8, .int x_25), (11, .int x_24), (10, .int x_20), (0, .ref (ad q)), (1, .int (rd e0 w i 0)), (2, .int (rd e0 w i 1)), (3, .int (rd e0 w i 2)), (4, .int (rd e0 w i 3)), (9, .int (nI i))]) hx hb dX1_mix_147 hl (by decide) rfl (fun ls hl => ?_)
        refine lv_iload_n hx hb dX1_mix_149 rfl (lv_at hl 9 rfl) ?_
        refine lv_topi (fun x_29 ex_29 => ?_)
        refine lv_istore (lv' := [(4, .int x_29), (5, .int x_28), (6, .int x_27), (7, .int x_26), (8, .int x_25), (11, .int x_24), (10, .int x_20), (0, .ref (ad q)), (1, .int (rd e0 w i 0)), (2, .int (rd e0 w i 1)), (3, .int (rd e0 w i 2)), (9, .int (nI i))]) hx hb dX1_mix_150 hl (by decide) rfl (fun ls hl => ?_)
        refine lv_iload_n hx hb dX1_mix_152 rfl (lv_at hl 9 rfl) ?_
        refine lv_topi (fun x_30 ex_30 => ?_)
        refine lv_istore_n (lv' := [(3, .int x_30), (4, .int x_29), (5, .int x_28), (6, .int x_27), (7, .int x_26), (8, .int x_25), (11, .int x_24), (10, .int x_20), (0, .ref (ad q)), (1, .int (rd e0 w i 0)), (2, .int (rd e0 w i 1)), (9, .int (nI i))]) hx hb dX1_mix_153 rfl hl (by decide) rfl (fun ls hl => ?_)
        refine lv_iload_n hx hb dX1_mix_154 rfl (lv_at hl 9 rfl) ?_
        refine lv_topi (fun x_31 ex_31 => ?_)
        refine lv_istore_n (lv' := [(2, .int x_31), (3, .int x_30), (4, .int x_29), (5, .int x_28), (6, .int x_27), (7, .int x_26), (8, .int x_25), (11, .int x_24), (10, .int x_20), (0, .ref (ad q)), (1, .int (rd e0 w i 0)), (9, .int (nI i))]) hx hb dX1_mix_155 rfl hl (by decide) rfl (fun ls hl => ?_)
        refine lv_iload hx hb dX1_mix_156 (lv_at hl 8 rfl) ?_
        refine lv_iload hx hb dX1_mix_158 (lv_at hl 7 rfl) ?_
        refine lv_iadd hx hb dX1_mix_160 ?_
        refine lv_topi (fun x_32 ex_32 => ?_)
        refine lv_istore_n (lv' := [(1, .int x_32), (2, .int x_31), (3, .int x_30), (4, .int x_29), (5, .int x_28), (6, .int x_27), (7, .int x_26), (8, .int x_25), (11, .int x_24), (10, .int x_20), (0, .ref (ad q)), (9, .int (nI i))]) hx hb dX1_mix_161 rfl hl (by decide) rfl (fun ls hl => ?_)
        refine lv_iinc (v := nI (i + 1)) (lv' := [(9, .int (nI (i + 1))), (1, .int x_32), (2, .int x_31), (3, .int x_30), (4, .int x_29), (5, .int x_28), (6, .int x_27), (7, .int x_26), (8, .int x_25), (11, .int x_24), (10, .int x_20), (0, .ref (ad q))]) hx hb dX1_mix_162 hl (k := 11) rfl (by rw [show Int32.ofInt 1 = nI 1 from rfl]; exact nI_add _ _) (by decide) rfl (fun ls hl => ?_)
        refine lv_goto (tgt := 66) hx hb dX1_mix_165 (by decide) ?_
        exact ih_66 (i + 1) _ _ _ (by omega) (by omega) hw (by have hl := lv_sub (l' := [(0, .ref (ad q)), (1, .int x_32), (2, .int x_31), (3, .int x_30), (4, .int x_29), (5, .int x_28), (6, .int x_27), (7, .int x_26), (8, .int x_25), (9, .int (nI (i + 1)))]) hl [11, 1, 2, 3, 4, 5, 6, 7, 8, 0] rfl; simp only [ex_32, ex_31, ex_30, ex_29, ex_28, ex_27, ex_26, ex_25, ex_24, ex_21, ex_20, ex_17] at hl; exact hl)
  refine lv_aload_n hx hb dX1_mix_0 rfl (lv_at hl 0 rfl) ?_
  refine x_get (ci := 2) (C := RX1) (T := TX1) (n := 2) (ref := RX1) hx hb hts hin_2 hown hK hw q l_q c_q rfl 0 (by decide) hf_9 (fun _ h => h) rfl dX1_mix_1 ?_
  refine lv_iconst (v := nI 0) hx hb dX1_mix_4 (by decide) ?_
  refine x_iald (j := 0) hx hb hK hw a 0 l_a c_a rfl rfl (by omega) (by decide) dX1_mix_5 ?_
  refine lv_topi (fun x_33 ex_33 => ?_)
  refine lv_istore_n (lv' := [(1, .int x_33), (0, .ref (ad q))]) hx hb dX1_mix_6 rfl hl (by decide) rfl (fun ls hl => ?_)
  refine lv_aload_n hx hb dX1_mix_7 rfl (lv_at hl 1 rfl) ?_
  refine x_get (ci := 2) (C := RX1) (T := TX1) (n := 2) (ref := RX1) hx hb hts hin_2 hown hK hw q l_q c_q rfl 0 (by decide) hf_9 (fun _ h => h) rfl dX1_mix_8 ?_
  refine lv_iconst (v := nI 1) hx hb dX1_mix_11 (by decide) ?_
  refine x_iald (j := 1) hx hb hK hw a 0 l_a c_a rfl rfl (by omega) (by decide) dX1_mix_12 ?_
  refine lv_topi (fun x_34 ex_34 => ?_)
  refine lv_istore_n (lv' := [(2, .int x_34), (1, .int x_33), (0, .ref (ad q))]) hx hb dX1_mix_13 rfl hl (by decide) rfl (fun ls hl => ?_)
  refine lv_aload_n hx hb dX1_mix_14 rfl (lv_at hl 2 rfl) ?_
  refine x_get (ci := 2) (C := RX1) (T := TX1) (n := 2) (ref := RX1) hx hb hts hin_2 hown hK hw q l_q c_q rfl 0 (by decide) hf_9 (fun _ h => h) rfl dX1_mix_15 ?_
  refine lv_iconst (v := nI 2) hx hb dX1_mix_18 (by decide) ?_
  refine x_iald (j := 2) hx hb hK hw a 0 l_a c_a rfl rfl (by omega) (by decide) dX1_mix_19 ?_
  refine lv_topi (fun x_35 ex_35 => ?_)
  refine lv_istore_n (lv' := [(3, .int x_35), (2, .int x_34), (1, .int x_33), (0, .ref (ad q))]) hx hb dX1_mix_20 rfl hl (by decide) rfl (fun ls hl => ?_)
  refine lv_aload_n hx hb dX1_mix_21 rfl (lv_at hl 3 rfl) ?_
  refine x_get (ci := 2) (C := RX1) (T := TX1) (n := 2) (ref := RX1) hx hb hts hin_2 hown hK hw q l_q c_q rfl 0 (by decide) hf_9 (fun _ h => h) rfl dX1_mix_22 ?_
  refine lv_iconst (v := nI 3) hx hb dX1_mix_25 (by decide) ?_
  refine x_iald (j := 3) hx hb hK hw a 0 l_a c_a rfl rfl (by omega) (by decide) dX1_mix_26 ?_
  refine lv_topi (fun x_36 ex_36 => ?_)
  refine lv_istore (lv' := [(4, .int x_36), (3, .int x_35), (2, .int x_34), (1, .int x_33), (0, .ref (ad q))]) hx hb dX1_mix_27 hl (by decide) rfl (fun ls hl => ?_)
  refine lv_aload_n hx hb dX1_mix_29 rfl (lv_at hl 4 rfl) ?_
  refine x_get (ci := 2) (C := RX1) (T := TX1) (n := 2) (ref := RX1) hx hb hts hin_2 hown hK hw q l_q c_q rfl 0 (by decide) hf_9 (fun _ h => h) rfl dX1_mix_30 ?_
  refine lv_iconst (v := nI 4) hx hb dX1_mix_33 (by decide) ?_
  refine x_iald (j := 4) hx hb hK hw a 0 l_a c_a rfl rfl (by omega) (by decide) dX1_mix_34 ?_
  refine lv_topi (fun x_37 ex_37 => ?_)
  refine lv_istore (lv' := [(5, .int x_37), (4, .int x_36), (3, .int x_35), (2, .int x_34), (1, .int x_33), (0, .ref (ad q))]) hx hb dX1_mix_35 hl (by decide) rfl (fun ls hl => ?_)
  refine lv_aload_n hx hb dX1_mix_37 rfl (lv_at hl 5 rfl) ?_
  refine x_get (ci := 2) (C := RX1) (T := TX1) (n := 2) (ref := RX1) hx hb hts hin_2 hown hK hw q l_q c_q rfl 0 (by decide) hf_9 (fun _ h => h) rfl dX1_mix_38 ?_
  refine lv_iconst (v := nI 5) hx hb dX1_mix_41 (by decide) ?_
  refine x_iald (j := 5) hx hb hK hw a 0 l_a c_a rfl rfl (by omega) (by decide) dX1_mix_42 ?_
  refine lv_topi (fun x_38 ex_38 => ?_)
  refine lv_istore (lv' := [(6, .int x_38), (5, .int x_37), (4, .int x_36), (3, .int x_35), (2, .int x_34), (1, .int x_33), (0, .ref (ad q))]) hx hb dX1_mix_43 hl (by decide) rfl (fun ls hl => ?_)
  refine lv_aload_n hx hb dX1_mix_45 rfl (lv_at hl 6 rfl) ?_
  refine x_get (ci := 2) (C := RX1) (T := TX1) (n := 2) (ref := RX1) hx hb hts hin_2 hown hK hw q l_q c_q rfl 0 (by decide) hf_9 (fun _ h => h) rfl dX1_mix_46 ?_
  refine lv_bipush (v := nI 6) hx hb dX1_mix_49 (by decide) ?_
  refine x_iald (j := 6) hx hb hK hw a 0 l_a c_a rfl rfl (by omega) (by decide) dX1_mix_51 ?_
  refine lv_topi (fun x_39 ex_39 => ?_)
  refine lv_istore (lv' := [(7, .int x_39), (6, .int x_38), (5, .int x_37), (4, .int x_36), (3, .int x_35), (2, .int x_34), (1, .int x_33), (0, .ref (ad q))]) hx hb dX1_mix_52 hl (by decide) rfl (fun ls hl => ?_)
  refine lv_aload_n hx hb dX1_mix_54 rfl (lv_at hl 7 rfl) ?_
  refine x_get (ci := 2) (C := RX1) (T := TX1) (n := 2) (ref := RX1) hx hb hts hin_2 hown hK hw q l_q c_q rfl 0 (by decide) hf_9 (fun _ h => h) rfl dX1_mix_55 ?_
  refine lv_bipush (v := nI 7) hx hb dX1_mix_58 (by decide) ?_
  refine x_iald (j := 7) hx hb hK hw a 0 l_a c_a rfl rfl (by omega) (by decide) dX1_mix_60 ?_
  refine lv_topi (fun x_40 ex_40 => ?_)
  refine lv_istore (lv' := [(8, .int x_40), (7, .int x_39), (6, .int x_38), (5, .int x_37), (4, .int x_36), (3, .int x_35), (2, .int x_34), (1, .int x_33), (0, .ref (ad q))]) hx hb dX1_mix_61 hl (by decide) rfl (fun ls hl => ?_)
  refine lv_iconst (v := nI 0) hx hb dX1_mix_63 (by decide) ?_
  refine lv_istore (lv' := [(9, .int (nI 0)), (8, .int x_40), (7, .int x_39), (6, .int x_38), (5, .int x_37), (4, .int x_36), (3, .int x_35), (2, .int x_34), (1, .int x_33), (0, .ref (ad q))]) hx hb dX1_mix_64 hl (by decide) rfl (fun ls hl => ?_)
  exact P_66 65 0 _ _ _ (by omega) (by omega) hw (by have hl := lv_sub (l' := [(0, .ref (ad q)), (1, .int x_33), (2, .int x_34), (3, .int x_35), (4, .int x_36), (5, .int x_37), (6, .int x_38), (7, .int x_39), (8, .int x_40), (9, .int (nI 0))]) hl [9, 8, 7, 6, 5, 4, 3, 2, 1, 0] rfl; simp only [ex_40, ex_39, ex_38, ex_37, ex_36, ex_35, ex_34, ex_33] at hl; exact hl)

abbrev rmX1_copyTo : Room := { frames := 0, cells := 0, slots := 0, locals := 0 }

set_option maxHeartbeats 4000000 in
set_option maxRecDepth 100000 in
theorem k_X1_copyTo (l : Launch) (D : va_G) (ca : Nat → ClassId) (N : Nat) (ad : Nat → Nat) (B tR tK : Nat) (f : Nat → va_E) (dd : xD N ad B) (q : Nat) (a : Nat) (b : Nat) (e0 : Nat → Int32) (t : Nat) (g : Nat → Int32) (l_q : q < N) (c_q : f q = .inr (2, [.ref (ad a), .ref (ad b)])) (l_a : a < N) (c_a : f a = ai (ca 0) 8 e0) (l_t : t < N) (c_t : f t = ai (ca 0) 8 g)  (nta : t ≠ a) : xMv l yX1_copyTo wsX1_copyTo rmX1_copyTo [.ref (ad q), .ref (ad t)] D ca N ad B tR tK f (fun u => u = va_up f t (ai (ca 0) 8 (cpyTo g e0 8))) := by
  refine x_open (cc := cX1_copyTo) (maxL := 3) (ret := none) (by decide) rfl (Nat.le_of_ble_eq_true rfl) ?_
  intro p e s m below meth c ls hx hb hml hown hts hr hlocks hnm hB hK hE hw hl
  have hown : s.vm.findClass RX1 = some m.cls := hown
  have hl : lv_has ls 3 [(0, .ref (ad q)), (1, .ref (ad t))] := hl
  have hin_2 : ∀ w ∈ u_ws RX1 TX1 2, w ∈ wsX1_copyTo := by decide +kernel
  have hf_9 := hts (.fieldLink RX1 9 "FixityRows$LongDigest" "eight" "[I") (by decide +kernel)
  have b_q := c_q
  have b_a := c_a
  have b_t := c_t
  have P_2 : ∀ (n_2 : Nat) (i : Nat) (H : Heap) (locs : List Loc) (ls : Array Slot), 8 + 1 ≤ i + n_2 → (i ≤ 8) → xw D vwCl N ad B s.heap (va_up f t (ai (ca 0) 8 (cpyTo g e0 i))) H locs → lv_has ls 3 [(0, .ref (ad q)), (1, .ref (ad t)), (2, .int (nI i))] → W p l e rmX1_copyTo s m ([.ref (ad q), .ref (ad t)] : List Value).toArray below meth c H locs 0 0 (MQ below (xQv (fun u => u = va_up f t (ai (ca 0) 8 (cpyTo g e0 8))) D N ad B) ([.ref (ad q), .ref (ad t)] : List Value).toArray s 0 0 (xA B)) (F0 m 2 ls []) := by
    intro n_2
    induction n_2 with
    | zero =>
      intro i H locs ls hm_2 hi hw hl
      exact absurd hm_2 (by omega)
    | succ n_2 ih_2 =>
      intro i H locs ls hm_2 hi hw hl
      have c_q := b_q
      have c_a := b_a
      have c_t := b_t
      obtain ⟨f_1, ef_1⟩ : ∃ z, z = va_up f t (ai (ca 0) 8 (cpyTo g e0 i)) := ⟨_, rfl⟩
      have hw : xw D vwCl N ad B s.heap f_1 H locs := by rw [ef_1]; exact hw
      have c_t : f_1 t = ai (ca 0) 8 (cpyTo g e0 i) := by rw [ef_1, va_up_self]
      refine lv_iload_n hx hb dX1_copyTo_2 rfl (lv_at hl 2 rfl) ?_
      refine lv_bipush (v := nI 8) hx hb dX1_copyTo_3 (by decide) ?_
      refine n_icge (tgt := 29) hx hb dX1_copyTo_5 (by decide) (by omega) (by omega) (fun c_5 => ?_) (fun c_5 => ?_)
      · exact x_vret hx hb hr hlocks hw (by have ei : i = 8 := (by omega); subst ei; simp only [ef_1]) dX1_copyTo_29
      · refine lv_iload_n hx hb dX1_copyTo_8 rfl (lv_at hl 2 rfl) ?_
        refine lv_aload_n hx hb dX1_copyTo_9 rfl (lv_at hl 1 rfl) ?_
        refine x_alen hx hb hK hw t 0 l_t c_t rfl dX1_copyTo_10 ?_
        refine n_icge (tgt := 29) hx hb dX1_copyTo_11 (by decide) (by omega) (by omega) (fun c_11 => ?_) (fun c_11 => ?_)
        · omega
        · refine lv_aload_n hx hb dX1_copyTo_14 rfl (lv_at hl 1 rfl) ?_
          refine lv_iload_n hx hb dX1_copyTo_15 rfl (lv_at hl 2 rfl) ?_
          refine lv_aload_n hx hb dX1_copyTo_16 rfl (lv_at hl 0 rfl) ?_
          have c_q : f_1 q = .inr (2, [.ref (ad a), .ref (ad b)]) := by rw [ef_1, va_up_ne _ _ (kd_ne' b_t b_q)]; exact c_q
          refine x_get (ci := 2) (C := RX1) (T := TX1) (n := 2) (ref := RX1) hx hb hts hin_2 hown hK hw q l_q c_q rfl 0 (by decide) hf_9 (fun _ h => h) rfl dX1_copyTo_17 ?_
          refine lv_iload_n hx hb dX1_copyTo_20 rfl (lv_at hl 2 rfl) ?_
          have c_a : f_1 a = ai (ca 0) 8 e0 := by rw [ef_1, va_up_ne _ _ (by omega)]; exact c_a
          refine x_iald (j := i) hx hb hK hw a 0 l_a c_a rfl rfl (by omega) (by decide) dX1_copyTo_21 ?_
          refine lv_topi (fun x_2 ex_2 => ?_)
          refine x_iast (j := i) hx hb hK dd hw t 0 l_t c_t rfl rfl (by omega) (by decide) dX1_copyTo_22 (fun H locs hw => ?_)
          obtain ⟨f_3, ef_3⟩ : ∃ z, z = va_up f_1 t (ai (ca 0) 8 (upd (cpyTo g e0 i) i x_2)) := ⟨_, rfl⟩
          have hw : xw D vwCl N ad B s.heap f_3 H locs := by rw [ef_3]; exact hw
          have c_t : f_3 t = ai (ca 0) 8 (upd (cpyTo g e0 i) i x_2) := va_up_of ef_3
          refine lv_iinc (v := nI (i + 1)) (lv' := [(2, .int (nI (i + 1))), (0, .ref (ad q)), (1, .ref (ad t))]) hx hb dX1_copyTo_23 hl (k := 2) rfl (by rw [show Int32.ofInt 1 = nI 1 from rfl]; exact nI_add _ _) (by decide) rfl (fun ls hl => ?_)
          refine lv_goto (tgt := 2) hx hb dX1_copyTo_26 (by decide) ?_
          have hw : xw D vwCl N ad B s.heap (va_up f t (ai (ca 0) 8 (cpyTo g e0 (i + 1)))) H locs := by
            have ez : f_3 = va_up f t (ai (ca 0) 8 (cpyTo g e0 (i + 1))) := by simp only [ef_3, ex_2, ef_1, up_aa, cp_step]
            rw [← ez]; exact hw
          exact ih_2 (i + 1) _ _ _ (by omega) (by omega) hw (lv_sub hl [1, 2, 0] rfl)
  refine lv_iconst (v := nI 0) hx hb dX1_copyTo_0 (by decide) ?_
  refine lv_istore_n (lv' := [(2, .int (nI 0)), (0, .ref (ad q)), (1, .ref (ad t))]) hx hb dX1_copyTo_1 rfl hl (by decide) rfl (fun ls hl => ?_)
  have hw : xw D vwCl N ad B s.heap (va_up f t (ai (ca 0) 8 (cpyTo g e0 0))) s.heap [] := by
    have ez : f = va_up f t (ai (ca 0) 8 (cpyTo g e0 0)) := by rw [cp_0, ← c_t, up_same]
    rw [← ez]; exact hw
  exact P_2 9 0 _ _ _ (by omega) (by omega) hw (lv_sub hl [1, 2, 0] rfl)

abbrev rmX1_equalTo : Room := { frames := 0, cells := 0, slots := 0, locals := 0 }

set_option maxHeartbeats 4000000 in
set_option maxRecDepth 100000 in
theorem k_X1_equalTo_yes (l : Launch) (D : va_G) (ca : Nat → ClassId) (N : Nat) (ad : Nat → Nat) (B tR tK : Nat) (f : Nat → va_E) (dd : xD N ad B) (q : Nat) (a : Nat) (b : Nat) (e0 : Nat → Int32) (t : Nat) (g : Nat → Int32) (l_q : q < N) (c_q : f q = .inr (2, [.ref (ad a), .ref (ad b)])) (l_a : a < N) (c_a : f a = ai (ca 0) 8 e0) (l_t : t < N) (c_t : f t = ai (ca 0) 8 g)  (hq : ∀ j, j < 8 → g j = e0 j) : xMi l yX1_equalTo wsX1_equalTo rmX1_equalTo [.ref (ad q), .ref (ad t)] D ca N ad B tR tK f (fun r u => nI 1 = r ∧ f = u) := by
  refine x_open (cc := cX1_equalTo) (maxL := 3) (ret := (some .boolean)) (by decide) rfl (Nat.le_of_ble_eq_true rfl) ?_
  intro p e s m below meth c ls hx hb hml hown hts hr hlocks hnm hB hK hE hw hl
  have hown : s.vm.findClass RX1 = some m.cls := hown
  have hl : lv_has ls 3 [(0, .ref (ad q)), (1, .ref (ad t))] := hl
  have hin_2 : ∀ w ∈ u_ws RX1 TX1 2, w ∈ wsX1_equalTo := by decide +kernel
  have hf_9 := hts (.fieldLink RX1 9 "FixityRows$LongDigest" "eight" "[I") (by decide +kernel)
  have b_q := c_q
  have b_a := c_a
  have b_t := c_t
  have P_2 : ∀ (n_2 : Nat) (i : Nat) (H : Heap) (locs : List Loc) (ls : Array Slot), 8 + 1 ≤ i + n_2 → (i ≤ 8) → xw D vwCl N ad B s.heap (f) H locs → lv_has ls 3 [(0, .ref (ad q)), (1, .ref (ad t)), (2, .int (nI i))] → W p l e rmX1_equalTo s m ([.ref (ad q), .ref (ad t)] : List Value).toArray below meth c H locs 0 0 (MQ below (xQi (fun r u => nI 1 = r ∧ f = u) D N ad B) ([.ref (ad q), .ref (ad t)] : List Value).toArray s 0 0 (xA B)) (F0 m 2 ls []) := by
    intro n_2
    induction n_2 with
    | zero =>
      intro i H locs ls hm_2 hi hw hl
      exact absurd hm_2 (by omega)
    | succ n_2 ih_2 =>
      intro i H locs ls hm_2 hi hw hl
      have c_q := b_q
      have c_a := b_a
      have c_t := b_t
      refine lv_iload_n hx hb dX1_equalTo_2 rfl (lv_at hl 2 rfl) ?_
      refine lv_bipush (v := nI 8) hx hb dX1_equalTo_3 (by decide) ?_
      refine n_icge (tgt := 34) hx hb dX1_equalTo_5 (by decide) (by omega) (by omega) (fun c_5 => ?_) (fun c_5 => ?_)
      · refine lv_iconst (v := nI 1) hx hb dX1_equalTo_34 (by decide) ?_
        exact x_zret hx hb hr hlocks hw (by first | exact Or.inl rfl | exact Or.inr rfl) ⟨rfl, rfl⟩ dX1_equalTo_35
      · refine lv_iload_n hx hb dX1_equalTo_8 rfl (lv_at hl 2 rfl) ?_
        refine lv_aload_n hx hb dX1_equalTo_9 rfl (lv_at hl 1 rfl) ?_
        refine x_alen hx hb hK hw t 0 l_t c_t rfl dX1_equalTo_10 ?_
        refine n_icge (tgt := 34) hx hb dX1_equalTo_11 (by decide) (by omega) (by omega) (fun c_11 => ?_) (fun c_11 => ?_)
        · omega
        · refine lv_aload_n hx hb dX1_equalTo_14 rfl (lv_at hl 1 rfl) ?_
          refine lv_iload_n hx hb dX1_equalTo_15 rfl (lv_at hl 2 rfl) ?_
          refine x_iald (j := i) hx hb hK hw t 0 l_t c_t rfl rfl (by omega) (by decide) dX1_equalTo_16 ?_
          refine lv_aload_n hx hb dX1_equalTo_17 rfl (lv_at hl 0 rfl) ?_
          refine x_get (ci := 2) (C := RX1) (T := TX1) (n := 2) (ref := RX1) hx hb hts hin_2 hown hK hw q l_q c_q rfl 0 (by decide) hf_9 (fun _ h => h) rfl dX1_equalTo_18 ?_
          refine lv_iload_n hx hb dX1_equalTo_21 rfl (lv_at hl 2 rfl) ?_
          refine x_iald (j := i) hx hb hK hw a 0 l_a c_a rfl rfl (by omega) (by decide) dX1_equalTo_22 ?_
          refine lv_icmp_eq (tgt := 28) hx hb dX1_equalTo_23 (by decide) (fun c_23 => ?_) (fun c_23 => ?_)
          · refine lv_iinc (v := nI (i + 1)) (lv' := [(2, .int (nI (i + 1))), (0, .ref (ad q)), (1, .ref (ad t))]) hx hb dX1_equalTo_28 hl (k := 2) rfl (by rw [show Int32.ofInt 1 = nI 1 from rfl]; exact nI_add _ _) (by decide) rfl (fun ls hl => ?_)
            refine lv_goto (tgt := 2) hx hb dX1_equalTo_31 (by decide) ?_
            exact ih_2 (i + 1) _ _ _ (by omega) (by omega) hw (lv_sub hl [1, 2, 0] rfl)
          · exact absurd (hq i c_5) c_23
  refine lv_iconst (v := nI 0) hx hb dX1_equalTo_0 (by decide) ?_
  refine lv_istore_n (lv' := [(2, .int (nI 0)), (0, .ref (ad q)), (1, .ref (ad t))]) hx hb dX1_equalTo_1 rfl hl (by decide) rfl (fun ls hl => ?_)
  exact P_2 9 0 _ _ _ (by omega) (by omega) hw (lv_sub hl [1, 2, 0] rfl)

set_option maxHeartbeats 4000000 in
set_option maxRecDepth 100000 in
theorem k_X1_equalTo_no (l : Launch) (D : va_G) (ca : Nat → ClassId) (N : Nat) (ad : Nat → Nat) (B tR tK : Nat) (f : Nat → va_E) (dd : xD N ad B) (q : Nat) (a : Nat) (b : Nat) (e0 : Nat → Int32) (t : Nat) (g : Nat → Int32) (l_q : q < N) (c_q : f q = .inr (2, [.ref (ad a), .ref (ad b)])) (l_a : a < N) (c_a : f a = ai (ca 0) 8 e0) (l_t : t < N) (c_t : f t = ai (ca 0) 8 g)  (hq : ∃ j, j < 8 ∧ g j ≠ e0 j) : xMi l yX1_equalTo wsX1_equalTo rmX1_equalTo [.ref (ad q), .ref (ad t)] D ca N ad B tR tK f (fun r u => nI 0 = r ∧ f = u) := by
  refine x_open (cc := cX1_equalTo) (maxL := 3) (ret := (some .boolean)) (by decide) rfl (Nat.le_of_ble_eq_true rfl) ?_
  intro p e s m below meth c ls hx hb hml hown hts hr hlocks hnm hB hK hE hw hl
  have hown : s.vm.findClass RX1 = some m.cls := hown
  have hl : lv_has ls 3 [(0, .ref (ad q)), (1, .ref (ad t))] := hl
  have hin_2 : ∀ w ∈ u_ws RX1 TX1 2, w ∈ wsX1_equalTo := by decide +kernel
  have hf_9 := hts (.fieldLink RX1 9 "FixityRows$LongDigest" "eight" "[I") (by decide +kernel)
  have b_q := c_q
  have b_a := c_a
  have b_t := c_t
  have P_2 : ∀ (n_2 : Nat) (i : Nat) (H : Heap) (locs : List Loc) (ls : Array Slot), 8 + 1 ≤ i + n_2 → (i ≤ 8) → (∀ j, j < i → g j = e0 j) → xw D vwCl N ad B s.heap (f) H locs → lv_has ls 3 [(0, .ref (ad q)), (1, .ref (ad t)), (2, .int (nI i))] → W p l e rmX1_equalTo s m ([.ref (ad q), .ref (ad t)] : List Value).toArray below meth c H locs 0 0 (MQ below (xQi (fun r u => nI 0 = r ∧ f = u) D N ad B) ([.ref (ad q), .ref (ad t)] : List Value).toArray s 0 0 (xA B)) (F0 m 2 ls []) := by
    intro n_2
    induction n_2 with
    | zero =>
      intro i H locs ls hm_2 hi hs hw hl
      exact absurd hm_2 (by omega)
    | succ n_2 ih_2 =>
      intro i H locs ls hm_2 hi hs hw hl
      have c_q := b_q
      have c_a := b_a
      have c_t := b_t
      refine lv_iload_n hx hb dX1_equalTo_2 rfl (lv_at hl 2 rfl) ?_
      refine lv_bipush (v := nI 8) hx hb dX1_equalTo_3 (by decide) ?_
      refine n_icge (tgt := 34) hx hb dX1_equalTo_5 (by decide) (by omega) (by omega) (fun c_5 => ?_) (fun c_5 => ?_)
      · exact absurd hq (fun ⟨j, h1, h2⟩ => h2 (hs j (by omega)))
      · refine lv_iload_n hx hb dX1_equalTo_8 rfl (lv_at hl 2 rfl) ?_
        refine lv_aload_n hx hb dX1_equalTo_9 rfl (lv_at hl 1 rfl) ?_
        refine x_alen hx hb hK hw t 0 l_t c_t rfl dX1_equalTo_10 ?_
        refine n_icge (tgt := 34) hx hb dX1_equalTo_11 (by decide) (by omega) (by omega) (fun c_11 => ?_) (fun c_11 => ?_)
        · omega
        · refine lv_aload_n hx hb dX1_equalTo_14 rfl (lv_at hl 1 rfl) ?_
          refine lv_iload_n hx hb dX1_equalTo_15 rfl (lv_at hl 2 rfl) ?_
          refine x_iald (j := i) hx hb hK hw t 0 l_t c_t rfl rfl (by omega) (by decide) dX1_equalTo_16 ?_
          refine lv_aload_n hx hb dX1_equalTo_17 rfl (lv_at hl 0 rfl) ?_
          refine x_get (ci := 2) (C := RX1) (T := TX1) (n := 2) (ref := RX1) hx hb hts hin_2 hown hK hw q l_q c_q rfl 0 (by decide) hf_9 (fun _ h => h) rfl dX1_equalTo_18 ?_
          refine lv_iload_n hx hb dX1_equalTo_21 rfl (lv_at hl 2 rfl) ?_
          refine x_iald (j := i) hx hb hK hw a 0 l_a c_a rfl rfl (by omega) (by decide) dX1_equalTo_22 ?_
          refine lv_icmp_eq (tgt := 28) hx hb dX1_equalTo_23 (by decide) (fun c_23 => ?_) (fun c_23 => ?_)
          · refine lv_iinc (v := nI (i + 1)) (lv' := [(2, .int (nI (i + 1))), (0, .ref (ad q)), (1, .ref (ad t))]) hx hb dX1_equalTo_28 hl (k := 2) rfl (by rw [show Int32.ofInt 1 = nI 1 from rfl]; exact nI_add _ _) (by decide) rfl (fun ls hl => ?_)
            refine lv_goto (tgt := 2) hx hb dX1_equalTo_31 (by decide) ?_
            exact ih_2 (i + 1) _ _ _ (by omega) (by omega) (lt_s hs c_23) hw (lv_sub hl [1, 2, 0] rfl)
          · refine lv_iconst (v := nI 0) hx hb dX1_equalTo_26 (by decide) ?_
            exact x_zret hx hb hr hlocks hw (by first | exact Or.inl rfl | exact Or.inr rfl) ⟨rfl, rfl⟩ dX1_equalTo_27
  refine lv_iconst (v := nI 0) hx hb dX1_equalTo_0 (by decide) ?_
  refine lv_istore_n (lv' := [(2, .int (nI 0)), (0, .ref (ad q)), (1, .ref (ad t))]) hx hb dX1_equalTo_1 rfl hl (by decide) rfl (fun ls hl => ?_)
  exact P_2 9 0 _ _ _ (by omega) (by omega) (fun j hj => absurd hj (by omega)) hw (lv_sub hl [1, 2, 0] rfl)

abbrev rmX1_compute : Room := { frames := 2, cells := 0, slots := 0, locals := 51 }

set_option maxHeartbeats 4000000 in
set_option maxRecDepth 100000 in
theorem k_X1_compute (l : Launch) (D : va_G) (ca : Nat → ClassId) (N : Nat) (ad : Nat → Nat) (B tR tK : Nat) (f : Nat → va_E) (dd : xD N ad B) (q : Nat) (a : Nat) (b : Nat) (e0 : Nat → Int32) (w : Nat → Int32) (o : Nat) (v : Nat) (sz : Nat) (g : Nat → Int32) (l_q : q < N) (c_q : f q = .inr (2, [.ref (ad a), .ref (ad b)])) (l_a : a < N) (c_a : f a = ai (ca 0) 8 e0) (l_b : b < N) (c_b : f b = ai (ca 0) 64 w) (l_o : o < N) (c_o : f o = .inr (3, [.ref (ad v), .int (nI sz)])) (l_v : v < N) (c_v : f v = ai (ca 0) 200 g)  (nab : a ≠ b) (nva : v ≠ a) (nvb : v ≠ b) (hn : sz ≤ 200) : xMv l yX1_compute wsX1_compute rmX1_compute [.ref (ad q), .ref (ad o)] D ca N ad B tR tK f (fun u => ∃ w1 : Nat → Int32, ∃ e1 : Nat → Int32, (∀ j, j < 8 → e1 j = sha sz g j) ∧ u = va_up (va_up f b (ai (ca 0) 64 w1)) a (ai (ca 0) 8 e1)) := by
  refine x_open (cc := cX1_compute) (maxL := 6) (ret := none) (by decide) rfl (Nat.le_of_ble_eq_true rfl) ?_
  intro p e s m below meth c ls hx hb hml hown hts hr hlocks hnm hB hK hE hw hl
  have hown : s.vm.findClass RX1 = some m.cls := hown
  have hl : lv_has ls 6 [(0, .ref (ad q)), (1, .ref (ad o))] := hl
  have hin_2 : ∀ w ∈ u_ws RX1 TX1 2, w ∈ wsX1_compute := by decide +kernel
  have hf_15 := hts (.fieldLink RX1 15 "FixityRows$LongDigest" "w" "[I") (by decide +kernel)
  have hf_9 := hts (.fieldLink RX1 9 "FixityRows$LongDigest" "eight" "[I") (by decide +kernel)
  have hf_18 := hts (.fieldLink RX1 18 "FixityRows$LongDigest" "ROOTS" "[I") (by decide +kernel)
  have b_q := c_q
  have b_a := c_a
  have b_b := c_b
  have b_o := c_o
  have b_v := c_v
  have P_43 : ∀ (n_43 : Nat) (bi : Nat) (H : Heap) (locs : List Loc) (ls : Array Slot), (sz + 8) / 64 + 1 + 1 ≤ bi + n_43 → (bi ≤ (sz + 8) / 64 + 1) → xw D vwCl N ad B s.heap (va_up (va_up f b (ai (ca 0) 64 ((shA sz g (cpyTo e0 shR 8) w bi).2))) a (ai (ca 0) 8 ((shA sz g (cpyTo e0 shR 8) w bi).1))) H locs → lv_has ls 6 [(0, .ref (ad q)), (1, .ref (ad o)), (2, .int (nI sz)), (3, .int (nI (((sz + 8) / 64) + 1))), (4, .int (nI bi))] → W p l e rmX1_compute s m ([.ref (ad q), .ref (ad o)] : List Value).toArray below meth c H locs 0 0 (MQ below (xQv (fun u => ∃ w1 : Nat → Int32, ∃ e1 : Nat → Int32, (∀ j, j < 8 → e1 j = sha sz g j) ∧ u = va_up (va_up f b (ai (ca 0) 64 w1)) a (ai (ca 0) 8 e1)) D N ad B) ([.ref (ad q), .ref (ad o)] : List Value).toArray s 0 0 (xA B)) (F0 m 43 ls []) := by
    intro n_43
    induction n_43 with
    | zero =>
      intro bi H locs ls hm_43 hb0 hw hl
      exact absurd hm_43 (by omega)
    | succ n_43 ih_43 =>
      intro bi H locs ls hm_43 hb0 hw hl
      have P_105 : ∀ (bi : Nat) (H : Heap) (locs : List Loc) (ls : Array Slot), (bi < (sz + 8) / 64 + 1) → ((sz + 8) / 64 + 1 + 1 ≤ bi + (n_43 + 1)) → xw D vwCl N ad B s.heap (va_up (va_up f b (ai (ca 0) 64 ((if bi = nb sz - 1 then upd (cpyTo (shA sz g (cpyTo e0 shR 8) w bi).2 (bw sz g bi) 16) 15 (nI (sz * 8)) else cpyTo (shA sz g (cpyTo e0 shR 8) w bi).2 (bw sz g bi) 16)))) a (ai (ca 0) 8 ((shA sz g (cpyTo e0 shR 8) w bi).1))) H locs → lv_has ls 6 [(0, .ref (ad q)), (1, .ref (ad o)), (2, .int (nI sz)), (3, .int (nI (((sz + 8) / 64) + 1))), (4, .int (nI bi))] → W p l e rmX1_compute s m ([.ref (ad q), .ref (ad o)] : List Value).toArray below meth c H locs 0 0 (MQ below (xQv (fun u => ∃ w1 : Nat → Int32, ∃ e1 : Nat → Int32, (∀ j, j < 8 → e1 j = sha sz g j) ∧ u = va_up (va_up f b (ai (ca 0) 64 w1)) a (ai (ca 0) 8 e1)) D N ad B) ([.ref (ad q), .ref (ad o)] : List Value).toArray s 0 0 (xA B)) (F0 m 105 ls []) := by
        intro bi H locs ls hbb hu hw hl
        have c_q := b_q
        have c_a := b_a
        have c_b := b_b
        have c_o := b_o
        have c_v := b_v
        obtain ⟨f_1, ef_1⟩ : ∃ z, z = va_up (va_up f b (ai (ca 0) 64 ((if bi = nb sz - 1 then upd (cpyTo (shA sz g (cpyTo e0 shR 8) w bi).2 (bw sz g bi) 16) 15 (nI (sz * 8)) else cpyTo (shA sz g (cpyTo e0 shR 8) w bi).2 (bw sz g bi) 16)))) a (ai (ca 0) 8 ((shA sz g (cpyTo e0 shR 8) w bi).1)) := ⟨_, rfl⟩
        have hw : xw D vwCl N ad B s.heap f_1 H locs := by rw [ef_1]; exact hw
        have c_b : f_1 b = ai (ca 0) 64 ((if bi = nb sz - 1 then upd (cpyTo (shA sz g (cpyTo e0 shR 8) w bi).2 (bw sz g bi) 16) 15 (nI (sz * 8)) else cpyTo (shA sz g (cpyTo e0 shR 8) w bi).2 (bw sz g bi) 16)) := by rw [ef_1, va_up_ne _ _ (by omega), va_up_self]
        have c_a : f_1 a = ai (ca 0) 8 ((shA sz g (cpyTo e0 shR 8) w bi).1) := by rw [ef_1, va_up_self]
        refine lv_aload_n hx hb dX1_compute_105 rfl (lv_at hl 0 rfl) ?_
        have c_q : f_1 q = .inr (2, [.ref (ad a), .ref (ad b)]) := by rw [ef_1, va_up_ne _ _ (kd_ne' b_a b_q), va_up_ne _ _ (kd_ne' b_b b_q)]; exact c_q
        refine x_Vv (q := q) (As := []) (rest := []) ⟨hx, hb, hml, hown, hts⟩ (k_X1_widen l D ca N ad B tR tK f_1 dd q a b ((if bi = nb sz - 1 then upd (cpyTo (shA sz g (cpyTo e0 shR 8) w bi).2 (bw sz g bi) 16) 15 (nI (sz * 8)) else cpyTo (shA sz g (cpyTo e0 shR 8) w bi).2 (bw sz g bi) 16)) l_q c_q l_b c_b  ) (cwV 0 hts gX1_compute_X1_widen rfl rfl rfl (by decide +kernel) ⟨Nat.le_of_ble_eq_true rfl, Nat.le_of_ble_eq_true rfl⟩) hK hE hB hw l_q c_q rfl rfl rfl rfl hl.1 (Nat.le_of_ble_eq_true rfl) ⟨Nat.zero_le _, Nat.zero_le _⟩ dX1_compute_106 (fun f_2 H locs hp hw => ?_)
        have eu := hp
        have ef_2 : f_2 = va_up f_1 b (ai (ca 0) 64 (wid ((if bi = nb sz - 1 then upd (cpyTo (shA sz g (cpyTo e0 shR 8) w bi).2 (bw sz g bi) 16) 15 (nI (sz * 8)) else cpyTo (shA sz g (cpyTo e0 shR 8) w bi).2 (bw sz g bi) 16)) 48)) := eu
        have c_b : f_2 b = ai (ca 0) 64 (wid ((if bi = nb sz - 1 then upd (cpyTo (shA sz g (cpyTo e0 shR 8) w bi).2 (bw sz g bi) 16) 15 (nI (sz * 8)) else cpyTo (shA sz g (cpyTo e0 shR 8) w bi).2 (bw sz g bi) 16)) 48) := by rw [ef_2, va_up_self]
        refine lv_aload_n hx hb dX1_compute_109 rfl (lv_at hl 0 rfl) ?_
        have c_q : f_2 q = .inr (2, [.ref (ad a), .ref (ad b)]) := by rw [ef_2, va_up_ne _ _ (kd_ne' b_b b_q)]; exact c_q
        have c_a : f_2 a = ai (ca 0) 8 ((shA sz g (cpyTo e0 shR 8) w bi).1) := by rw [ef_2, va_up_ne _ _ (by omega)]; exact c_a
        refine x_Vv (q := q) (As := []) (rest := []) ⟨hx, hb, hml, hown, hts⟩ (k_X1_mix l D ca N ad B tR tK f_2 dd q a b ((shA sz g (cpyTo e0 shR 8) w bi).1) (wid ((if bi = nb sz - 1 then upd (cpyTo (shA sz g (cpyTo e0 shR 8) w bi).2 (bw sz g bi) 16) 15 (nI (sz * 8)) else cpyTo (shA sz g (cpyTo e0 shR 8) w bi).2 (bw sz g bi) 16)) 48) l_q c_q l_a c_a l_b c_b  (by omega)) (cwV 0 hts gX1_compute_X1_mix rfl rfl rfl (by decide +kernel) ⟨Nat.le_of_ble_eq_true rfl, Nat.le_of_ble_eq_true rfl⟩) hK hE hB hw l_q c_q rfl rfl rfl rfl hl.1 (Nat.le_of_ble_eq_true rfl) ⟨Nat.zero_le _, Nat.zero_le _⟩ dX1_compute_110 (fun f_4 H locs hp hw => ?_)
        have eu := hp
        have ef_4 : f_4 = va_up f_2 a (ai (ca 0) 8 (mixTo ((shA sz g (cpyTo e0 shR 8) w bi).1) (rd ((shA sz g (cpyTo e0 shR 8) w bi).1) (wid ((if bi = nb sz - 1 then upd (cpyTo (shA sz g (cpyTo e0 shR 8) w bi).2 (bw sz g bi) 16) 15 (nI (sz * 8)) else cpyTo (shA sz g (cpyTo e0 shR 8) w bi).2 (bw sz g bi) 16)) 48) 64) 8)) := eu
        have c_a : f_4 a = ai (ca 0) 8 (mixTo ((shA sz g (cpyTo e0 shR 8) w bi).1) (rd ((shA sz g (cpyTo e0 shR 8) w bi).1) (wid ((if bi = nb sz - 1 then upd (cpyTo (shA sz g (cpyTo e0 shR 8) w bi).2 (bw sz g bi) 16) 15 (nI (sz * 8)) else cpyTo (shA sz g (cpyTo e0 shR 8) w bi).2 (bw sz g bi) 16)) 48) 64) 8) := by rw [ef_4, va_up_self]
        refine lv_iinc (v := nI (bi + 1)) (lv' := [(4, .int (nI (bi + 1))), (0, .ref (ad q)), (1, .ref (ad o)), (2, .int (nI sz)), (3, .int (nI (((sz + 8) / 64) + 1)))]) hx hb dX1_compute_113 hl (k := 4) rfl (by rw [show Int32.ofInt 1 = nI 1 from rfl]; exact nI_add _ _) (by decide) rfl (fun ls hl => ?_)
        refine lv_goto (tgt := 43) hx hb dX1_compute_116 (by decide) ?_
        have hw : xw D vwCl N ad B s.heap (va_up (va_up f b (ai (ca 0) 64 ((shA sz g (cpyTo e0 shR 8) w (bi + 1)).2))) a (ai (ca 0) 8 ((shA sz g (cpyTo e0 shR 8) w (bi + 1)).1))) H locs := by
          have ez : f_4 = va_up (va_up f b (ai (ca 0) 64 ((shA sz g (cpyTo e0 shR 8) w (bi + 1)).2))) a (ai (ca 0) 8 ((shA sz g (cpyTo e0 shR 8) w (bi + 1)).1)) := by simp only [ef_4, ef_2, ef_1, up_aba _ _ _ _ nab.symm, up_aa]; rfl
          rw [← ez]; exact hw
        exact ih_43 (bi + 1) _ _ _ (by omega) (by omega) hw (lv_sub hl [1, 2, 3, 4, 0] rfl)
      have P_52 : ∀ (n_52 : Nat) (bi : Nat) (i : Nat) (H : Heap) (locs : List Loc) (ls : Array Slot), 16 + 1 ≤ i + n_52 → (bi < (sz + 8) / 64 + 1) → ((sz + 8) / 64 + 1 + 1 ≤ bi + (n_43 + 1)) → (i ≤ 16) → xw D vwCl N ad B s.heap (va_up (va_up f b (ai (ca 0) 64 (cpyTo (shA sz g (cpyTo e0 shR 8) w bi).2 (bw sz g bi) i))) a (ai (ca 0) 8 ((shA sz g (cpyTo e0 shR 8) w bi).1))) H locs → lv_has ls 6 [(0, .ref (ad q)), (1, .ref (ad o)), (2, .int (nI sz)), (3, .int (nI (((sz + 8) / 64) + 1))), (4, .int (nI bi)), (5, .int (nI i))] → W p l e rmX1_compute s m ([.ref (ad q), .ref (ad o)] : List Value).toArray below meth c H locs 0 0 (MQ below (xQv (fun u => ∃ w1 : Nat → Int32, ∃ e1 : Nat → Int32, (∀ j, j < 8 → e1 j = sha sz g j) ∧ u = va_up (va_up f b (ai (ca 0) 64 w1)) a (ai (ca 0) 8 e1)) D N ad B) ([.ref (ad q), .ref (ad o)] : List Value).toArray s 0 0 (xA B)) (F0 m 52 ls []) := by
        intro n_52
        induction n_52 with
        | zero =>
          intro bi i H locs ls hm_52 hbb hu hi hw hl
          exact absurd hm_52 (by omega)
        | succ n_52 ih_52 =>
          intro bi i H locs ls hm_52 hbb hu hi hw hl
          have c_q := b_q
          have c_a := b_a
          have c_b := b_b
          have c_o := b_o
          have c_v := b_v
          obtain ⟨f_6, ef_6⟩ : ∃ z, z = va_up (va_up f b (ai (ca 0) 64 (cpyTo (shA sz g (cpyTo e0 shR 8) w bi).2 (bw sz g bi) i))) a (ai (ca 0) 8 ((shA sz g (cpyTo e0 shR 8) w bi).1)) := ⟨_, rfl⟩
          have hw : xw D vwCl N ad B s.heap f_6 H locs := by rw [ef_6]; exact hw
          have c_b : f_6 b = ai (ca 0) 64 (cpyTo (shA sz g (cpyTo e0 shR 8) w bi).2 (bw sz g bi) i) := by rw [ef_6, va_up_ne _ _ (by omega), va_up_self]
          have c_a : f_6 a = ai (ca 0) 8 ((shA sz g (cpyTo e0 shR 8) w bi).1) := by rw [ef_6, va_up_self]
          refine lv_iload hx hb dX1_compute_52 (lv_at hl 5 rfl) ?_
          refine lv_bipush (v := nI 16) hx hb dX1_compute_54 (by decide) ?_
          refine n_icge (tgt := 86) hx hb dX1_compute_56 (by decide) (by omega) (by omega) (fun c_56 => ?_) (fun c_56 => ?_)
          · refine lv_iload hx hb dX1_compute_86 (lv_at hl 4 rfl) ?_
            refine lv_iload_n hx hb dX1_compute_88 rfl (lv_at hl 3 rfl) ?_
            refine lv_iconst (v := nI 1) hx hb dX1_compute_89 (by decide) ?_
            refine n_isub hx hb dX1_compute_90 (by omega) ?_
            refine n_icne (tgt := 105) hx hb dX1_compute_91 (by decide) (by omega) (by omega) (fun c_91 => ?_) (fun c_91 => ?_)
            · have hw : xw D vwCl N ad B s.heap (va_up (va_up f b (ai (ca 0) 64 ((if bi = nb sz - 1 then upd (cpyTo (shA sz g (cpyTo e0 shR 8) w bi).2 (bw sz g bi) 16) 15 (nI (sz * 8)) else cpyTo (shA sz g (cpyTo e0 shR 8) w bi).2 (bw sz g bi) 16)))) a (ai (ca 0) 8 ((shA sz g (cpyTo e0 shR 8) w bi).1))) H locs := by
                have ez : f_6 = va_up (va_up f b (ai (ca 0) 64 ((if bi = nb sz - 1 then upd (cpyTo (shA sz g (cpyTo e0 shR 8) w bi).2 (bw sz g bi) 16) 15 (nI (sz * 8)) else cpyTo (shA sz g (cpyTo e0 shR 8) w bi).2 (bw sz g bi) 16)))) a (ai (ca 0) 8 ((shA sz g (cpyTo e0 shR 8) w bi).1)) := by have ei : i = 16 := (by omega); subst ei; rw [if_neg (show ¬ bi = nb sz - 1 from c_91)]; simp only [ef_6]
                rw [← ez]; exact hw
              exact P_105 bi _ _ _ (by omega) (by omega) hw (lv_sub hl [0, 1, 2, 3, 4] rfl)
            · refine lv_aload_n hx hb dX1_compute_94 rfl (lv_at hl 0 rfl) ?_
              have c_q : f_6 q = .inr (2, [.ref (ad a), .ref (ad b)]) := by rw [ef_6, va_up_ne _ _ (kd_ne' b_a b_q), va_up_ne _ _ (kd_ne' b_b b_q)]; exact c_q
              refine x_get (ci := 2) (C := RX1) (T := TX1) (n := 2) (ref := RX1) hx hb hts hin_2 hown hK hw q l_q c_q rfl 1 (by decide) hf_15 (fun _ h => h) rfl dX1_compute_95 ?_
              refine lv_bipush (v := nI 15) hx hb dX1_compute_98 (by decide) ?_
              refine lv_iload_n hx hb dX1_compute_100 rfl (lv_at hl 2 rfl) ?_
              refine lv_bipush (v := nI 8) hx hb dX1_compute_101 (by decide) ?_
              refine n_imul hx hb dX1_compute_103 ?_
              refine x_iast (j := 15) hx hb hK dd hw b 0 l_b c_b rfl rfl (by omega) (by decide) dX1_compute_104 (fun H locs hw => ?_)
              obtain ⟨f_7, ef_7⟩ : ∃ z, z = va_up f_6 b (ai (ca 0) 64 (upd (cpyTo (shA sz g (cpyTo e0 shR 8) w bi).2 (bw sz g bi) i) 15 (nI (sz * 8)))) := ⟨_, rfl⟩
              have hw : xw D vwCl N ad B s.heap f_7 H locs := by rw [ef_7]; exact hw
              have c_b : f_7 b = ai (ca 0) 64 (upd (cpyTo (shA sz g (cpyTo e0 shR 8) w bi).2 (bw sz g bi) i) 15 (nI (sz * 8))) := va_up_of ef_7
              have hw : xw D vwCl N ad B s.heap (va_up (va_up f b (ai (ca 0) 64 ((if bi = nb sz - 1 then upd (cpyTo (shA sz g (cpyTo e0 shR 8) w bi).2 (bw sz g bi) 16) 15 (nI (sz * 8)) else cpyTo (shA sz g (cpyTo e0 shR 8) w bi).2 (bw sz g bi) 16)))) a (ai (ca 0) 8 ((shA sz g (cpyTo e0 shR 8) w bi).1))) H locs := by
                have ez : f_7 = va_up (va_up f b (ai (ca 0) 64 ((if bi = nb sz - 1 then upd (cpyTo (shA sz g (cpyTo e0 shR 8) w bi).2 (bw sz g bi) 16) 15 (nI (sz * 8)) else cpyTo (shA sz g (cpyTo e0 shR 8) w bi).2 (bw sz g bi) 16)))) a (ai (ca 0) 8 ((shA sz g (cpyTo e0 shR 8) w bi).1)) := by have ei : i = 16 := (by omega); subst ei; rw [if_pos (show bi = nb sz - 1 from c_91)]; simp only [ef_7, ef_6, up_aba _ _ _ _ nab.symm]
                rw [← ez]; exact hw
              exact P_105 bi _ _ _ (by omega) (by omega) hw (lv_sub hl [0, 1, 2, 3, 4] rfl)
          · refine lv_aload_n hx hb dX1_compute_59 rfl (lv_at hl 0 rfl) ?_
            have c_q : f_6 q = .inr (2, [.ref (ad a), .ref (ad b)]) := by rw [ef_6, va_up_ne _ _ (kd_ne' b_a b_q), va_up_ne _ _ (kd_ne' b_b b_q)]; exact c_q
            refine x_get (ci := 2) (C := RX1) (T := TX1) (n := 2) (ref := RX1) hx hb hts hin_2 hown hK hw q l_q c_q rfl 1 (by decide) hf_15 (fun _ h => h) rfl dX1_compute_60 ?_
            refine lv_iload hx hb dX1_compute_63 (lv_at hl 5 rfl) ?_
            refine lv_aload_n hx hb dX1_compute_65 rfl (lv_at hl 1 rfl) ?_
            refine lv_iload hx hb dX1_compute_66 (lv_at hl 4 rfl) ?_
            refine lv_bipush (v := nI 64) hx hb dX1_compute_68 (by decide) ?_
            refine n_imul hx hb dX1_compute_70 ?_
            refine lv_iload hx hb dX1_compute_71 (lv_at hl 5 rfl) ?_
            refine lv_iconst (v := nI 4) hx hb dX1_compute_73 (by decide) ?_
            refine n_imul hx hb dX1_compute_74 ?_
            refine n_iadd hx hb dX1_compute_75 ?_
            have c_o : f_6 o = .inr (3, [.ref (ad v), .int (nI sz)]) := by rw [ef_6, va_up_ne _ _ (kd_ne' b_a b_o), va_up_ne _ _ (kd_ne' b_b b_o)]; exact c_o
            have c_v : f_6 v = ai (ca 0) 200 g := by rw [ef_6, va_up_ne _ _ (by omega), va_up_ne _ _ (by omega)]; exact c_v
            refine x_Si (As := [.ref (ad o), .int (nI ((bi * 64) + (i * 4)))]) (rest := [.int (nI i), .ref (ad b)]) ⟨hx, hb, hml, hown, hts⟩ (k_X1_paddedWord l D ca N ad B tR tK f_6 dd o v sz g ((bi * 64) + (i * 4)) l_o c_o l_v c_v  (by omega) (by omega)) (va_cwS 2 hts gX1_compute_X1_paddedWord rfl rfl rfl (by decide +kernel) ⟨Nat.le_of_ble_eq_true rfl, Nat.le_of_ble_eq_true rfl⟩) hK hE hB hw rfl rfl hl.1 (Nat.le_of_ble_eq_true rfl) ⟨Nat.zero_le _, Nat.zero_le _⟩ dX1_compute_76 (fun r_9 f_8 H locs hp hw => ?_)
            obtain ⟨er, eu⟩ := hp
            rw [← er]
            rw [← eu] at hw
            refine lv_topi (fun x_10 ex_10 => ?_)
            refine x_iast (j := i) hx hb hK dd hw b 0 l_b c_b rfl rfl (by omega) (by decide) dX1_compute_79 (fun H locs hw => ?_)
            obtain ⟨f_11, ef_11⟩ : ∃ z, z = va_up f_6 b (ai (ca 0) 64 (upd (cpyTo (shA sz g (cpyTo e0 shR 8) w bi).2 (bw sz g bi) i) i x_10)) := ⟨_, rfl⟩
            have hw : xw D vwCl N ad B s.heap f_11 H locs := by rw [ef_11]; exact hw
            have c_b : f_11 b = ai (ca 0) 64 (upd (cpyTo (shA sz g (cpyTo e0 shR 8) w bi).2 (bw sz g bi) i) i x_10) := va_up_of ef_11
            refine lv_iinc (v := nI (i + 1)) (lv' := [(5, .int (nI (i + 1))), (0, .ref (ad q)), (1, .ref (ad o)), (2, .int (nI sz)), (3, .int (nI (((sz + 8) / 64) + 1))), (4, .int (nI bi))]) hx hb dX1_compute_80 hl (k := 5) rfl (by rw [show Int32.ofInt 1 = nI 1 from rfl]; exact nI_add _ _) (by decide) rfl (fun ls hl => ?_)
            refine lv_goto (tgt := 52) hx hb dX1_compute_83 (by decide) ?_
            have hw : xw D vwCl N ad B s.heap (va_up (va_up f b (ai (ca 0) 64 (cpyTo (shA sz g (cpyTo e0 shR 8) w bi).2 (bw sz g bi) (i + 1)))) a (ai (ca 0) 8 ((shA sz g (cpyTo e0 shR 8) w bi).1))) H locs := by
              have ez : f_11 = va_up (va_up f b (ai (ca 0) 64 (cpyTo (shA sz g (cpyTo e0 shR 8) w bi).2 (bw sz g bi) (i + 1)))) a (ai (ca 0) 8 ((shA sz g (cpyTo e0 shR 8) w bi).1)) := by simp only [ef_11, ex_10, ef_6, up_aba _ _ _ _ nab.symm]; rw [← cp_step _ (bw sz g bi) i]; rfl
              rw [← ez]; exact hw
            exact ih_52 bi (i + 1) _ _ _ (by omega) (by omega) (by omega) (by omega) hw (lv_sub hl [1, 2, 3, 4, 5, 0] rfl)
      have c_q := b_q
      have c_a := b_a
      have c_b := b_b
      have c_o := b_o
      have c_v := b_v
      obtain ⟨f_12, ef_12⟩ : ∃ z, z = va_up (va_up f b (ai (ca 0) 64 ((shA sz g (cpyTo e0 shR 8) w bi).2))) a (ai (ca 0) 8 ((shA sz g (cpyTo e0 shR 8) w bi).1)) := ⟨_, rfl⟩
      have hw : xw D vwCl N ad B s.heap f_12 H locs := by rw [ef_12]; exact hw
      have c_b : f_12 b = ai (ca 0) 64 ((shA sz g (cpyTo e0 shR 8) w bi).2) := by rw [ef_12, va_up_ne _ _ (by omega), va_up_self]
      have c_a : f_12 a = ai (ca 0) 8 ((shA sz g (cpyTo e0 shR 8) w bi).1) := by rw [ef_12, va_up_self]
      refine lv_iload hx hb dX1_compute_43 (lv_at hl 4 rfl) ?_
      refine lv_iload_n hx hb dX1_compute_45 rfl (lv_at hl 3 rfl) ?_
      refine n_icge (tgt := 119) hx hb dX1_compute_46 (by decide) (by omega) (by omega) (fun c_46 => ?_) (fun c_46 => ?_)
      · exact x_vret hx hb hr hlocks hw ⟨(shA sz g (cpyTo e0 shR 8) w (nb sz)).2, _, sha_of (e := cpyTo e0 shR 8) (w := w) (fun j hj => cp_in hj), (by have ei : bi = nb sz := Nat.le_antisymm hb0 c_46; subst ei; simp only [ef_12])⟩ dX1_compute_119
      · refine lv_iconst (v := nI 0) hx hb dX1_compute_49 (by decide) ?_
        refine lv_istore (lv' := [(5, .int (nI 0)), (0, .ref (ad q)), (1, .ref (ad o)), (2, .int (nI sz)), (3, .int (nI (((sz + 8) / 64) + 1))), (4, .int (nI bi))]) hx hb dX1_compute_50 hl (by decide) rfl (fun ls hl => ?_)
        have hw : xw D vwCl N ad B s.heap (va_up (va_up f b (ai (ca 0) 64 (cpyTo (shA sz g (cpyTo e0 shR 8) w bi).2 (bw sz g bi) 0))) a (ai (ca 0) 8 ((shA sz g (cpyTo e0 shR 8) w bi).1))) H locs := by
          have ez : f_12 = va_up (va_up f b (ai (ca 0) 64 (cpyTo (shA sz g (cpyTo e0 shR 8) w bi).2 (bw sz g bi) 0))) a (ai (ca 0) 8 ((shA sz g (cpyTo e0 shR 8) w bi).1)) := by rw [ef_12, cp_0]
          rw [← ez]; exact hw
        exact P_52 17 bi 0 _ _ _ (by omega) (by omega) (by omega) (by omega) hw (lv_sub hl [1, 2, 3, 4, 5, 0] rfl)
  have P_2 : ∀ (n_2 : Nat) (i : Nat) (H : Heap) (locs : List Loc) (ls : Array Slot), 8 + 1 ≤ i + n_2 → (i ≤ 8) → xw D vwCl N ad B s.heap (va_up f a (ai (ca 0) 8 (cpyTo e0 shR i))) H locs → lv_has ls 6 [(0, .ref (ad q)), (1, .ref (ad o)), (2, .int (nI i))] → W p l e rmX1_compute s m ([.ref (ad q), .ref (ad o)] : List Value).toArray below meth c H locs 0 0 (MQ below (xQv (fun u => ∃ w1 : Nat → Int32, ∃ e1 : Nat → Int32, (∀ j, j < 8 → e1 j = sha sz g j) ∧ u = va_up (va_up f b (ai (ca 0) 64 w1)) a (ai (ca 0) 8 e1)) D N ad B) ([.ref (ad q), .ref (ad o)] : List Value).toArray s 0 0 (xA B)) (F0 m 2 ls []) := by
    intro n_2
    induction n_2 with
    | zero =>
      intro i H locs ls hm_2 hi hw hl
      exact absurd hm_2 (by omega)
    | succ n_2 ih_2 =>
      intro i H locs ls hm_2 hi hw hl
      have c_q := b_q
      have c_a := b_a
      have c_b := b_b
      have c_o := b_o
      have c_v := b_v
      obtain ⟨f_13, ef_13⟩ : ∃ z, z = va_up f a (ai (ca 0) 8 (cpyTo e0 shR i)) := ⟨_, rfl⟩
      have hw : xw D vwCl N ad B s.heap f_13 H locs := by rw [ef_13]; exact hw
      have c_a : f_13 a = ai (ca 0) 8 (cpyTo e0 shR i) := by rw [ef_13, va_up_self]
      refine lv_iload_n hx hb dX1_compute_2 rfl (lv_at hl 2 rfl) ?_
      refine lv_bipush (v := nI 8) hx hb dX1_compute_3 (by decide) ?_
      refine n_icge (tgt := 25) hx hb dX1_compute_5 (by decide) (by omega) (by omega) (fun c_5 => ?_) (fun c_5 => ?_)
      · refine lv_aload_n hx hb dX1_compute_25 rfl (lv_at hl 1 rfl) ?_
        have c_o : f_13 o = .inr (3, [.ref (ad v), .int (nI sz)]) := by rw [ef_13, va_up_ne _ _ (kd_ne' b_a b_o)]; exact c_o
        refine x_Vi (q := o) (As := []) (rest := []) ⟨hx, hb, hml, hown, hts⟩ (k_X2_count l D ca N ad B tR tK f_13 dd o v sz l_o c_o  ) (cwV 0 hts gX1_compute_X2_count rfl rfl rfl (by decide +kernel) ⟨Nat.le_of_ble_eq_true rfl, Nat.le_of_ble_eq_true rfl⟩) hK hE hB hw l_o c_o rfl rfl rfl rfl hl.1 (Nat.le_of_ble_eq_true rfl) ⟨Nat.zero_le _, Nat.zero_le _⟩ dX1_compute_26 (fun r_15 f_14 H locs hp hw => ?_)
        obtain ⟨er, eu⟩ := hp
        rw [← er]
        rw [← eu] at hw
        refine lv_istore_n (lv' := [(2, .int (nI sz)), (0, .ref (ad q)), (1, .ref (ad o))]) hx hb dX1_compute_29 rfl hl (by decide) rfl (fun ls hl => ?_)
        refine lv_iload_n hx hb dX1_compute_30 rfl (lv_at hl 0 rfl) ?_
        refine lv_bipush (v := nI 8) hx hb dX1_compute_31 (by decide) ?_
        refine n_iadd hx hb dX1_compute_33 ?_
        refine lv_bipush (v := nI 64) hx hb dX1_compute_34 (by decide) ?_
        refine n_idiv hx hb dX1_compute_36 (by omega) (by omega) (by omega) ?_
        refine lv_iconst (v := nI 1) hx hb dX1_compute_37 (by decide) ?_
        refine n_iadd hx hb dX1_compute_38 ?_
        refine lv_istore_n (lv' := [(3, .int (nI (((sz + 8) / 64) + 1))), (2, .int (nI sz)), (0, .ref (ad q)), (1, .ref (ad o))]) hx hb dX1_compute_39 rfl hl (by decide) rfl (fun ls hl => ?_)
        refine lv_iconst (v := nI 0) hx hb dX1_compute_40 (by decide) ?_
        refine lv_istore (lv' := [(4, .int (nI 0)), (3, .int (nI (((sz + 8) / 64) + 1))), (2, .int (nI sz)), (0, .ref (ad q)), (1, .ref (ad o))]) hx hb dX1_compute_41 hl (by decide) rfl (fun ls hl => ?_)
        have hw : xw D vwCl N ad B s.heap (va_up (va_up f b (ai (ca 0) 64 ((shA sz g (cpyTo e0 shR 8) w 0).2))) a (ai (ca 0) 8 ((shA sz g (cpyTo e0 shR 8) w 0).1))) H locs := by
          have ez : f_13 = va_up (va_up f b (ai (ca 0) 64 ((shA sz g (cpyTo e0 shR 8) w 0).2))) a (ai (ca 0) 8 ((shA sz g (cpyTo e0 shR 8) w 0).1)) := by have ei : i = 8 := (by omega); subst ei; rw [ef_13]; show _ = va_up (va_up f b (ai (ca 0) 64 w)) a (ai (ca 0) 8 (cpyTo e0 shR 8)); rw [← b_b, up_same]
          rw [← ez]; exact hw
        exact P_43 ((((sz + 8) / 64) + 1 + 1)) 0 _ _ _ (by omega) (by omega) hw (lv_sub hl [3, 4, 2, 1, 0] rfl)
      · refine lv_aload_n hx hb dX1_compute_8 rfl (lv_at hl 0 rfl) ?_
        have c_q : f_13 q = .inr (2, [.ref (ad a), .ref (ad b)]) := by rw [ef_13, va_up_ne _ _ (kd_ne' b_a b_q)]; exact c_q
        refine x_get (ci := 2) (C := RX1) (T := TX1) (n := 2) (ref := RX1) hx hb hts hin_2 hown hK hw q l_q c_q rfl 0 (by decide) hf_9 (fun _ h => h) rfl dX1_compute_9 ?_
        refine lv_iload_n hx hb dX1_compute_12 rfl (lv_at hl 2 rfl) ?_
        refine x_roots hx hb hE hw hown hf_18 dX1_compute_13 ?_
        refine lv_iload_n hx hb dX1_compute_16 rfl (lv_at hl 2 rfl) ?_
        refine x_root hx hb hE hw (rfl : nI i = nI i) (by omega) dX1_compute_17 ?_
        refine lv_topi (fun x_16 ex_16 => ?_)
        refine x_iast (j := i) hx hb hK dd hw a 0 l_a c_a rfl rfl (by omega) (by decide) dX1_compute_18 (fun H locs hw => ?_)
        obtain ⟨f_17, ef_17⟩ : ∃ z, z = va_up f_13 a (ai (ca 0) 8 (upd (cpyTo e0 shR i) i x_16)) := ⟨_, rfl⟩
        have hw : xw D vwCl N ad B s.heap f_17 H locs := by rw [ef_17]; exact hw
        have c_a : f_17 a = ai (ca 0) 8 (upd (cpyTo e0 shR i) i x_16) := va_up_of ef_17
        refine lv_iinc (v := nI (i + 1)) (lv' := [(2, .int (nI (i + 1))), (0, .ref (ad q)), (1, .ref (ad o))]) hx hb dX1_compute_19 hl (k := 2) rfl (by rw [show Int32.ofInt 1 = nI 1 from rfl]; exact nI_add _ _) (by decide) rfl (fun ls hl => ?_)
        refine lv_goto (tgt := 2) hx hb dX1_compute_22 (by decide) ?_
        have hw : xw D vwCl N ad B s.heap (va_up f a (ai (ca 0) 8 (cpyTo e0 shR (i + 1)))) H locs := by
          have ez : f_17 = va_up f a (ai (ca 0) 8 (cpyTo e0 shR (i + 1))) := by simp only [ef_17, ex_16, ef_13, up_aa, cp_step]
          rw [← ez]; exact hw
        exact ih_2 (i + 1) _ _ _ (by omega) (by omega) hw (lv_sub hl [1, 2, 0] rfl)
  refine lv_iconst (v := nI 0) hx hb dX1_compute_0 (by decide) ?_
  refine lv_istore_n (lv' := [(2, .int (nI 0)), (0, .ref (ad q)), (1, .ref (ad o))]) hx hb dX1_compute_1 rfl hl (by decide) rfl (fun ls hl => ?_)
  have hw : xw D vwCl N ad B s.heap (va_up f a (ai (ca 0) 8 (cpyTo e0 shR 0))) s.heap [] := by
    have ez : f = va_up f a (ai (ca 0) 8 (cpyTo e0 shR 0)) := by rw [cp_0, ← c_a, up_same]
    rw [← ez]; exact hw
  exact P_2 9 0 _ _ _ (by omega) (by omega) hw (lv_sub hl [1, 2, 0] rfl)
