/-! ===== at(), where there is such a byte ===== -/
abbrev rmX5_at : Room := { frames := 0, cells := 0, slots := 0, locals := 0 }

set_option maxHeartbeats 4000000 in
set_option maxRecDepth 100000 in
theorem k_X5_at_in (l : Launch) (D : va_G) (ca : Nat → ClassId) (N : Nat) (ad : Nat → Nat) (B tR tK : Nat) (f : Nat → va_E) (dd : xD N ad B) (hN : 302 ≤ N) (n : Nat → Nat) (g : Nat → Nat → Int32) (z : Nat → Nat → Int32) (zn : Nat) (tb : Nat → Int32) (hR : RepX ca ad n g z zn tb f) (j : Nat) (h1 : n 1 ≤ 32) (hj : j < n 1) : xMi l yX5_at wsX5_at rmX5_at [.ref (ad 0), .int (nI j)] D ca N ad B tR tK f (fun r u => wb (g 1 (j / 4)) (j % 4) = r ∧ f = u) := by
  refine x_open (cc := cX5_at) (maxL := 2) (ret := (some .int)) (by decide) rfl (Nat.le_of_ble_eq_true rfl) ?_
  intro p e s m below meth c ls hx hb hml hown hts hr hlocks hnm hB hK hE hw hl
  have hown : s.vm.findClass RX5 = some m.cls := hown
  have hl : lv_has ls 2 [(0, .ref (ad 0)), (1, .int (nI j))] := hl
  obtain ⟨c_0, c_1, c_2, c_3, c_4, c_5, c_6, c_7, c_8, c_9, c_90, c_91, c_92, c_93, c_94, c_95, c_96, c_97, c_98, c_99, c_300, c_301, F_kf, F_oc, F_va, F_lw, F_M, hzn, hT⟩ := hR
  have hin_6 : ∀ w ∈ u_ws RX5 TX5 13, w ∈ wsX5_at := by decide +kernel
  have hf_83 := hts (.fieldLink RX5 83 "FixityRows" "latestLength" "I") (by decide +kernel)
  have hf_43 := hts (.fieldLink RX5 43 "FixityRows" "latestDigest" "[I") (by decide +kernel)
  have b_0 := c_0
  have b_1 := c_1
  have b_2 := c_2
  have b_3 := c_3
  have b_4 := c_4
  have b_5 := c_5
  have b_6 := c_6
  have b_7 := c_7
  have b_8 := c_8
  have b_9 := c_9
  have b_90 := c_90
  have b_91 := c_91
  have b_92 := c_92
  have b_93 := c_93
  have b_94 := c_94
  have b_95 := c_95
  have b_96 := c_96
  have b_97 := c_97
  have b_98 := c_98
  have b_99 := c_99
  have b_300 := c_300
  have b_301 := c_301
  refine lv_iload_n hx hb dX5_at_0 rfl (lv_at hl 1 rfl) ?_
  refine n_iflt (tgt := 12) hx hb dX5_at_1 (by decide) (by omega) ?_
  refine lv_iload_n hx hb dX5_at_4 rfl (lv_at hl 1 rfl) ?_
  refine lv_aload_n hx hb dX5_at_5 rfl (lv_at hl 0 rfl) ?_
  refine x_get (ci := 6) (C := RX5) (T := TX5) (n := 13) (ref := RX5) hx hb hts hin_6 hown hK hw 0 (by omega) c_0 rfl 5 (by decide) hf_83 (fun _ h => h) rfl dX5_at_6 ?_
  refine n_iclt (tgt := 22) hx hb dX5_at_9 (by decide) (by omega) (by omega) (fun hc_9 => ?_) (fun hc_9 => ?_)
  · refine lv_aload_n hx hb dX5_at_22 rfl (lv_at hl 0 rfl) ?_
    refine x_get (ci := 6) (C := RX5) (T := TX5) (n := 13) (ref := RX5) hx hb hts hin_6 hown hK hw 0 (by omega) c_0 rfl 4 (by decide) hf_43 (fun _ h => h) rfl dX5_at_23 ?_
    refine lv_iload_n hx hb dX5_at_26 rfl (lv_at hl 1 rfl) ?_
    refine lv_iconst (v := nI 2) hx hb dX5_at_27 (by decide) ?_
    refine lv_ishr hx hb dX5_at_28 ?_
    have e29 : nI j >>> (nI 2 &&& 31) = nI (j / 4) := pk_shrN (by omega) _ 2 (by decide)
    refine x_iald (j := j / 4) hx hb hK hw 8 0 (by omega) c_8 rfl e29 (by omega) (by decide) dX5_at_29 ?_
    refine lv_bipush (v := nI 24) hx hb dX5_at_30 (by decide) ?_
    refine lv_bipush (v := nI 8) hx hb dX5_at_32 (by decide) ?_
    refine lv_iload_n hx hb dX5_at_34 rfl (lv_at hl 1 rfl) ?_
    refine lv_iconst (v := nI 3) hx hb dX5_at_35 (by decide) ?_
    refine lv_iand hx hb dX5_at_36 ?_
    refine lv_imul hx hb dX5_at_37 ?_
    refine lv_isub hx hb dX5_at_38 ?_
    refine n_iushr hx hb dX5_at_39 ?_
    refine lv_sipush (v := nI 255) hx hb dX5_at_40 (by decide) ?_
    refine lv_iand hx hb dX5_at_43 ?_
    exact x_iret hx hb hr hlocks hw ⟨(by rw [pk_andN (n := j) (by omega) (m := nI 3) 2 (by decide), pk_mul, pk_sub (by omega)]; rfl), rfl⟩ dX5_at_44
  · exact absurd hc_9 (by omega)
