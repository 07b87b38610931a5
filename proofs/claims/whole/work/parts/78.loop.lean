/-! ===== the law's loop ===== -/
theorem RepX.frame {ca : Nat → ClassId} {ad : Nat → Nat} {n : Nat → Nat} {g z : Nat → Nat → Int32} {zn : Nat} {tb : Nat → Int32} {f u : Nat → va_E} (h : RepX ca ad n g z zn tb f) (e : ∀ y, y < 302 → u y = f y) : RepX ca ad n g z zn tb u := by
  obtain ⟨c_0, c_1, c_2, c_3, c_4, c_5, c_6, c_7, c_8, c_9, c_90, c_91, c_92, c_93, c_94, c_95, c_96, c_97, c_98, c_99, c_300, c_301, F1, F2, F3, F4, F5, hzn, hT⟩ := h
  exact ⟨(by rw [e 0 (by omega)]; exact c_0), (by rw [e 1 (by omega)]; exact c_1), (by rw [e 2 (by omega)]; exact c_2), (by rw [e 3 (by omega)]; exact c_3), (by rw [e 4 (by omega)]; exact c_4), (by rw [e 5 (by omega)]; exact c_5), (by rw [e 6 (by omega)]; exact c_6), (by rw [e 7 (by omega)]; exact c_7), (by rw [e 8 (by omega)]; exact c_8), (by rw [e 9 (by omega)]; exact c_9), (by rw [e 90 (by omega)]; exact c_90), (by rw [e 91 (by omega)]; exact c_91), (by rw [e 92 (by omega)]; exact c_92), (by rw [e 93 (by omega)]; exact c_93), (by rw [e 94 (by omega)]; exact c_94), (by rw [e 95 (by omega)]; exact c_95), (by rw [e 96 (by omega)]; exact c_96), (by rw [e 97 (by omega)]; exact c_97), (by rw [e 98 (by omega)]; exact c_98), (by rw [e 99 (by omega)]; exact c_99), (by rw [e 300 (by omega)]; exact c_300), (by rw [e 301 (by omega)]; exact c_301), (fun i hi => by rw [e _ (by omega)]; exact F1 i hi), (fun i hi => by rw [e _ (by omega)]; exact F2 i hi), (fun i hi => by rw [e _ (by omega)]; exact F3 i hi), (fun i hi => by rw [e _ (by omega)]; exact F4 i hi), (fun i hi => by rw [e _ (by omega)]; exact F5 i hi), hzn, hT⟩
theorem RepM.frame {ca : Nat → ClassId} {ad : Nat → Nat} {n : Nat → Nat} {g z : Nat → Nat → Int32} {zn : Nat} {tb : Nat → Int32} {f u : Nat → va_E} (h : RepM ca ad n g z zn tb f) (e : ∀ y, 302 ≤ y → y < 326 → u y = f y) : RepM ca ad n g z zn tb u := by
  obtain ⟨c_302, c_303, c_304, c_305, c_306, c_307, c_308, c_309, c_310, c_311, c_312, c_313, c_314, c_315, c_316, c_317, c_318, c_319, c_320, c_321, c_322, c_323, c_324, c_325, hzn⟩ := h
  exact ⟨(by rw [e 302 (by omega) (by omega)]; exact c_302), (by rw [e 303 (by omega) (by omega)]; exact c_303), (by rw [e 304 (by omega) (by omega)]; exact c_304), (by rw [e 305 (by omega) (by omega)]; exact c_305), (by rw [e 306 (by omega) (by omega)]; exact c_306), (by rw [e 307 (by omega) (by omega)]; exact c_307), (by rw [e 308 (by omega) (by omega)]; exact c_308), (by rw [e 309 (by omega) (by omega)]; exact c_309), (by rw [e 310 (by omega) (by omega)]; exact c_310), (by rw [e 311 (by omega) (by omega)]; exact c_311), (by rw [e 312 (by omega) (by omega)]; exact c_312), (by rw [e 313 (by omega) (by omega)]; exact c_313), (by rw [e 314 (by omega) (by omega)]; exact c_314), (by rw [e 315 (by omega) (by omega)]; exact c_315), (by rw [e 316 (by omega) (by omega)]; exact c_316), (by rw [e 317 (by omega) (by omega)]; exact c_317), (by rw [e 318 (by omega) (by omega)]; exact c_318), (by rw [e 319 (by omega) (by omega)]; exact c_319), (by rw [e 320 (by omega) (by omega)]; exact c_320), (by rw [e 321 (by omega) (by omega)]; exact c_321), (by rw [e 322 (by omega) (by omega)]; exact c_322), (by rw [e 323 (by omega) (by omega)]; exact c_323), (by rw [e 324 (by omega) (by omega)]; exact c_324), (by rw [e 325 (by omega) (by omega)]; exact c_325), hzn⟩
theorem sub4 {L i : Nat} (hL : L ≤ 2049) (hi : i < 2 ^ 30) (h : ¬ nI L - nI 4 < nI i) : i + 4 ≤ L := by
  have h1 : (nI L - nI 4).toInt = (L : Int) - 4 := pk_sub_toInt (by omega) (by omega)
  have h2 : (nI i).toInt = (i : Int) := nI_toInt (by omega)
  rw [Int32.lt_iff_toInt_lt, h1, h2] at h
  omega
section LL
variable {p : Program} {l : Launch} {e : Env} {R : Room} {s : State} {m : MethodId} {args : Array Value} {below : List Frame} {meth : Method} {c : Code} {H : Heap} {locs : List Loc} {cells slots : Nat} {Q : State → Prop}
variable {cc : ByteArray} {pc : Nat} {ls : Array Slot} {rest : List Value}
theorem x_scr (hx : p.tables.exec = Jvm.exec) (hb : c.code = cc) {b L : Nat} {xs : Nat → Int32} {A : Nat → Prop} (hX : va_X b L xs s s.heap) (hbl : b < s.heap.size) (hbA : ¬ A b) (hS : va_S A s.heap H locs) {j : Nat} (hj : j < L) (hL : L < 2 ^ 31) (hdg : decode cc pc = .ok (.iaload, 1))
    (kk : W p l e R s m args below meth c H locs cells slots Q (F0 m (pc + 1) ls (.int (xs j) :: rest))) : W p l e R s m args below meth c H locs cells slots Q (F0 m pc ls (.int (nI j) :: .ref b :: rest)) := by
  refine va_sld hx hb hX hbl hbA hS (vp_in_nI hj hL) hdg ?_
  rw [nI_clamp (by omega)]
  exact kk
theorem lv_lcmp_eq (hx : p.tables.exec = Jvm.exec) (hb : c.code = cc) {x : Int64} (hdg : decode cc pc = .ok (.lcmp, 1)) (kk : W p l e R s m args below meth c H locs cells slots Q (F0 m (pc + 1) ls (.int 0 :: rest))) : W p l e R s m args below meth c H locs cells slots Q (F0 m pc ls (.long x :: .long x :: rest)) := by
  intro T hT X
  obtain ⟨t, a, b⟩ := kk T hT X
  refine ⟨t, ?_, b⟩
  jvm_step X.here [X.here.top, hx, hb, hdg]
  first | exact a | simpa using a
end LL
set_option maxHeartbeats 8000000 in
set_option maxRecDepth 100000 in
theorem law_loop {p : Program} {e : Env} {s : State} {m : MethodId} {below : List Frame} {meth : Method} {c : Code} (l : Launch) (hlt : l.stackTraces = false) {b L : Nat} {xs : Nat → Int32} {Q : State → Prop} (hL : L ≤ 2049) (hx : p.tables.exec = Jvm.exec) (hb : c.code = cL_law) (hml : c.maxLocals = 7) (hown : s.vm.findClass RL = some m.cls) (hts : ∀ w ∈ lw_tbl, w.before #[Value.ref b] s = true) (hX : va_X b L xs s s.heap) (hbl : b < s.heap.size) (hend : ∀ (H : Heap) (ls : Array Slot), W p l e room_1 s m #[Value.ref b] below meth c H [] 601024 7293000 Q (F0 m 666 ls [])) (D : va_G) (ca : Nat → ClassId) (ad : Nat → Nat) (tR tK sa : Nat) (had : ∀ k, ad k = s.heap.size + k) (hK : va_K D vwCl (xT ca) s) (hE : xE tR tK s.heap.size s) (hZ : xZ s.heap.size sa s) : ∀ (fu k : Nat), 513 ≤ k + fu → k ≤ 512 → ∀ (n : Nat → Nat) (g z : Nat → Nat → Int32) (zn : Nat) (tb : Nat → Int32) (n' : Nat → Nat) (g' z' : Nat → Nat → Int32) (zn' : Nat) (tb' : Nat → Int32) (lg : Nat → Int64) (f : Nat → va_E) (H : Heap) (locs : List Loc) (ls : Array Slot), Rel n g n' g' → RepX ca ad n g z zn tb f → RepM ca ad n' g' z' zn' tb' f → f 326 = al (ca 5) 1 lg → xw D vwCl 327 ad s.heap.size s.heap f H locs → lv_has ls 7 [(4, .int (nI (4 * k + 1))), (3, .ref (ad 326)), (2, .ref (ad 302)), (1, .ref (ad 0)), (0, .ref b)] → W p l e room_1 s m #[Value.ref b] below meth c H locs (327 + k) (20310 + 6 * k) Q (F0 m 33 ls []) := by
  have dd := xD_of had 327
  have hB : s.heap.size ≤ s.heap.size := Nat.le_refl _
  have hbA : ¬ xA s.heap.size b := Nat.not_le.mpr hbl
  intro fu
  induction fu with
  | zero => intro k h1 h2; omega
  | succ fu ih =>
    intro k hfu hk n g z zn tb n' g' z' zn' tb' lg f H locs ls hRel hRX hRM c_326 hw hl
    have c_0 := hRX.1
    have c_302 := hRM.1
    refine lv_iload hx hb dL_law_33 (lv_at hl 0 rfl) ?_
    refine lv_aload_n hx hb dL_law_35 rfl (lv_at hl 4 rfl) ?_
    refine va_slen hx hb hX hbl hbA hw.2 dL_law_36 ?_
    refine lv_iconst (v := nI 4) hx hb dL_law_37 (by decide) ?_
    refine lv_isub hx hb dL_law_38 ?_
    refine lv_icmp_gt (tgt := 666) hx hb dL_law_39 (by decide) (fun _ => ?_) (fun c39 => ?_)
    · refine va_forget hw.2.2.2 ?_
      refine W.widen (k := 601024) (n := 7293000) (by omega) (by omega) ?_
      exact hend _ _
    have hi : 4 * k + 1 + 4 ≤ L := sub4 hL (by omega) c39
    have hk2 : k + 1 ≤ 512 := by omega
    have hNext : ∀ (n : Nat → Nat) (g z : Nat → Nat → Int32) (zn : Nat) (tb : Nat → Int32) (n' : Nat → Nat) (g' z' : Nat → Nat → Int32) (zn' : Nat) (tb' : Nat → Int32) (lg : Nat → Int64) (f : Nat → va_E) (H : Heap) (locs : List Loc) (ls : Array Slot), Rel n g n' g' → RepX ca ad n g z zn tb f → RepM ca ad n' g' z' zn' tb' f → f 326 = al (ca 5) 1 lg → xw D vwCl 327 ad s.heap.size s.heap f H locs → lv_has ls 7 [(4, .int (nI (4 * k + 1))), (3, .ref (ad 326)), (2, .ref (ad 302)), (1, .ref (ad 0)), (0, .ref b)] → W p l e room_1 s m #[Value.ref b] below meth c H locs (327 + k + 1) (20310 + 6 * k + 6) Q (F0 m 660 ls []) := by
      intro n g z zn tb n' g' z' zn' tb' lg f H locs ls hRel hRX hRM c_326 hw hl
      refine lv_iinc (v := nI (4 * (k + 1) + 1)) (lv' := [(4, .int (nI (4 * (k + 1) + 1))), (3, .ref (ad 326)), (2, .ref (ad 302)), (1, .ref (ad 0)), (0, .ref b)]) hx hb dL_law_660 hl (k := 0) rfl (by rw [show Int32.ofInt 4 = nI 4 from rfl, nI_add, show 4 * k + 1 + 4 = 4 * (k + 1) + 1 by omega]) (by decide) rfl (fun ls hl => ?_)
      refine lv_goto (tgt := 33) hx hb dL_law_663 (by decide) ?_
      exact W_cast (ih (k + 1) (by omega) hk2 n g z zn tb n' g' z' zn' tb' lg f _ _ _ hRel hRX hRM c_326 hw hl) (by omega) (by omega)
    refine lv_aload_n hx hb dL_law_42 rfl (lv_at hl 4 rfl) ?_
    refine lv_iload hx hb dL_law_43 (lv_at hl 0 rfl) ?_
    refine x_scr hx hb hX hbl hbA hw.2 (by omega) (by omega) dL_law_45 ?_
    refine lv_bipush (v := nI 15) hx hb dL_law_46 (by decide) ?_
    refine lv_iand hx hb dL_law_48 ?_
    obtain ⟨j, hj, ej⟩ := pk_andE (xs (4 * k + 1)) (m := nI 15) 4 (by decide)
    rw [ej]
    rcases (show j = 0 ∨ j = 1 ∨ j = 2 ∨ j = 3 ∨ j = 4 ∨ j = 5 ∨ j = 6 ∨ j = 7 ∨ j = 8 ∨ j = 9 ∨ j = 10 ∨ j = 11 ∨ j = 12 ∨ j = 13 ∨ j = 14 ∨ j = 15 by omega) with rfl | rfl | rfl | rfl | rfl | rfl | rfl | rfl | rfl | rfl | rfl | rfl | rfl | rfl | rfl | rfl
    · refine lv_tableIn (off := 75) (tgt := 124) hx hb dL_law_49 (by decide) (by decide) (by decide) (by decide) ?_
      obtain ⟨n1, g1, m1, d1, sX, sM, hRel1⟩ := s_octet hRel (xs (4 * k + 1 + 1))
      refine lv_aload_n hx hb dL_law_124 rfl (lv_at hl 3 rfl) ?_
      refine lv_aload_n hx hb dL_law_125 rfl (lv_at hl 4 rfl) ?_
      refine lv_iload hx hb dL_law_126 (lv_at hl 0 rfl) ?_
      refine lv_iconst (v := nI 1) hx hb dL_law_128 (by decide) ?_
      refine n_iadd hx hb dL_law_129 ?_
      refine x_scr hx hb hX hbl hbA hw.2 (by omega) (by omega) dL_law_130 ?_
      refine x_Vv (q := 0) (As := [.int (xs (4 * k + 1 + 1))]) (rest := []) ⟨hx, hb, hml, hown, hts⟩ (sX l D ca 327 ad s.heap.size tR tK f dd (by omega) z zn tb hRX) (cwV 1 hts gW_X5_octet rfl rfl rfl (by decide +kernel) ⟨Nat.le_of_ble_eq_true rfl, Nat.le_of_ble_eq_true rfl⟩) hK hE hB hw (by omega) c_0 rfl rfl rfl rfl hl.1 (Nat.le_of_ble_eq_true rfl) ⟨show 327 + k ≤ 601024 by omega, show 20310 + 6 * k ≤ 7293000 by omega⟩ dL_law_131 (fun u H locs hp hw => ?_)
      obtain ⟨z1, zn1, hRX1, fr1⟩ := hp
      have hRM1 := hRM.frame (fun y h1 _ => fr1 y h1)
      have c_302 := hRM1.1
      have c_326 := (fr1 326 (by omega)).trans c_326
      refine lv_aload_n hx hb dL_law_134 rfl (lv_at hl 2 rfl) ?_
      refine lv_aload_n hx hb dL_law_135 rfl (lv_at hl 4 rfl) ?_
      refine lv_iload hx hb dL_law_136 (lv_at hl 0 rfl) ?_
      refine lv_iconst (v := nI 1) hx hb dL_law_138 (by decide) ?_
      refine n_iadd hx hb dL_law_139 ?_
      refine x_scr hx hb hX hbl hbA hw.2 (by omega) (by omega) dL_law_140 ?_
      refine x_Vv (q := 302) (As := [.int (xs (4 * k + 1 + 1))]) (rest := []) ⟨hx, hb, hml, hown, hts⟩ (sM l D ca 327 ad s.heap.size tR tK u dd (by omega) z' zn' tb' hRM1) (cwV 1 hts gW_X6_octet rfl rfl rfl (by decide +kernel) ⟨Nat.le_of_ble_eq_true rfl, Nat.le_of_ble_eq_true rfl⟩) hK hE hB hw (by omega) c_302 rfl rfl rfl rfl hl.1 (Nat.le_of_ble_eq_true rfl) ⟨show 327 + k ≤ 601024 by omega, show 20310 + 6 * k ≤ 7293000 by omega⟩ dL_law_141 (fun u2 H locs hp hw => ?_)
      obtain ⟨z2, zn2, hRM2, fr2⟩ := hp
      have hRX2 := hRX1.frame (fun y h1 => fr2 y (Or.inl h1))
      have c_326 := (fr2 326 (Or.inr (by omega))).trans c_326
      refine lv_goto (tgt := 660) hx hb dL_law_144 (by decide) ?_
      refine W.widen (k := 327 + k + 1) (n := 20310 + 6 * k + 6) (by omega) (by omega) ?_
      exact hNext _ _ _ _ _ _ _ _ _ _ _ _ _ _ _ hRel1 hRX2 hRM2 c_326 hw hl
    · refine lv_tableIn (off := 98) (tgt := 147) hx hb dL_law_49 (by decide) (by decide) (by decide) (by decide) ?_
      obtain ⟨r, n1, g1, m1, d1, sX, sM, hRel1⟩ := s_digest hRel (xs (4 * k + 1 + 1))
      refine lv_aload_n hx hb dL_law_147 rfl (lv_at hl 3 rfl) ?_
      refine lv_aload_n hx hb dL_law_148 rfl (lv_at hl 4 rfl) ?_
      refine lv_iload hx hb dL_law_149 (lv_at hl 0 rfl) ?_
      refine lv_iconst (v := nI 1) hx hb dL_law_151 (by decide) ?_
      refine n_iadd hx hb dL_law_152 ?_
      refine x_scr hx hb hX hbl hbA hw.2 (by omega) (by omega) dL_law_153 ?_
      refine x_Vi (q := 0) (As := [.int (xs (4 * k + 1 + 1))]) (rest := []) ⟨hx, hb, hml, hown, hts⟩ (sX l D ca 327 ad s.heap.size tR tK f dd (by omega) z zn tb hRX) (cwV 1 hts gW_X5_digest rfl rfl rfl (by decide +kernel) ⟨Nat.le_of_ble_eq_true rfl, Nat.le_of_ble_eq_true rfl⟩) hK hE hB hw (by omega) c_0 rfl rfl rfl rfl hl.1 (Nat.le_of_ble_eq_true rfl) ⟨show 327 + k ≤ 601024 by omega, show 20310 + 6 * k ≤ 7293000 by omega⟩ dL_law_154 (fun r1 u H locs hp hw => ?_)
      obtain ⟨er, z1, zn1, hRX1, fr1⟩ := hp
      rw [← er]
      have hRM1 := hRM.frame (fun y h1 _ => fr1 y h1)
      have c_302 := hRM1.1
      have c_326 := (fr1 326 (by omega)).trans c_326
      refine lv_aload_n hx hb dL_law_157 rfl (lv_at hl 2 rfl) ?_
      refine lv_aload_n hx hb dL_law_158 rfl (lv_at hl 4 rfl) ?_
      refine lv_iload hx hb dL_law_159 (lv_at hl 0 rfl) ?_
      refine lv_iconst (v := nI 1) hx hb dL_law_161 (by decide) ?_
      refine n_iadd hx hb dL_law_162 ?_
      refine x_scr hx hb hX hbl hbA hw.2 (by omega) (by omega) dL_law_163 ?_
      refine x_Vi (q := 302) (As := [.int (xs (4 * k + 1 + 1))]) (rest := [.int r]) ⟨hx, hb, hml, hown, hts⟩ (sM l D ca 327 ad s.heap.size tR tK u dd (by omega) z' zn' tb' hRM1) (cwV 1 hts gW_X6_digest rfl rfl rfl (by decide +kernel) ⟨Nat.le_of_ble_eq_true rfl, Nat.le_of_ble_eq_true rfl⟩) hK hE hB hw (by omega) c_302 rfl rfl rfl rfl hl.1 (Nat.le_of_ble_eq_true rfl) ⟨show 327 + k ≤ 601024 by omega, show 20310 + 6 * k ≤ 7293000 by omega⟩ dL_law_164 (fun r2 u2 H locs hp hw => ?_)
      obtain ⟨er2, z2, zn2, hRM2, fr2⟩ := hp
      rw [← er2]
      have hRX2 := hRX1.frame (fun y h1 => fr2 y (Or.inl h1))
      have c_326 := (fr2 326 (Or.inr (by omega))).trans c_326
      refine lv_icmp_eq (tgt := 660) hx hb dL_law_167 (by decide) (fun _ => ?_) (fun h => absurd rfl h)
      refine W.widen (k := 327 + k + 1) (n := 20310 + 6 * k + 6) (by omega) (by omega) ?_
      exact hNext _ _ _ _ _ _ _ _ _ _ _ _ _ _ _ hRel1 hRX2 hRM2 c_326 hw hl
    · refine lv_tableIn (off := 123) (tgt := 172) hx hb dL_law_49 (by decide) (by decide) (by decide) (by decide) ?_
      have h32 : n 1 ≤ 32 := by have := hRel.1; unfold RelN at this; omega
      have e15 : n 1 = n' 5 := hRel.1.2.1
      refine lv_aload_n hx hb dL_law_172 rfl (lv_at hl 3 rfl) ?_
      refine lv_aload_n hx hb dL_law_173 rfl (lv_at hl 4 rfl) ?_
      refine lv_iload hx hb dL_law_174 (lv_at hl 0 rfl) ?_
      refine lv_iconst (v := nI 1) hx hb dL_law_176 (by decide) ?_
      refine n_iadd hx hb dL_law_177 ?_
      refine x_scr hx hb hX hbl hbA hw.2 (by omega) (by omega) dL_law_178 ?_
      refine lv_aload_n hx hb dL_law_179 rfl (lv_at hl 1 rfl) ?_
      rcases ix2 (xs (4 * k + 1 + 1)) (n 1) (by omega) with ho | ⟨j, hj1, ex⟩
      · refine x_SW (n := 3) (As := [.ref (ad 0), .int (xs (4 * k + 1 + 1)), .ref (ad 326)]) (rest := []) ⟨hx, hb, hml, hown, hts⟩ (k_L_at_out l hlt D ca 327 ad s.heap.size tR tK sa f dd (by omega) n g z zn tb hRX _ ho) (xPreA.blind _ _ _ _ _ _ _ _ _ _) gW_L_at rfl rfl rfl ⟨Nat.le_of_ble_eq_true rfl, Nat.le_of_ble_eq_true rfl⟩ (hts _ wm_571) (hts _ wm_572) (hts _ wm_0) (by decide +kernel) (fun U hU hW => ⟨rfl, ⟨by rw [hU]; exact hw.2.1, by rw [hU]; exact hw.1, va_K.moved hW.alike hK, hE.warm hW (by rw [hU]; exact hw.2)⟩, hZ.warm hW (fun q h1 h2 => by rw [hU]; exact hw.2.2.1 q h2 (Nat.not_le.mpr h1))⟩) hw rfl rfl hl.1 (Nat.le_of_ble_eq_true rfl) ⟨show 327 + k + 1 ≤ 601024 by omega, show 20310 + 6 * k + 6 ≤ 7293000 by omega⟩ dL_law_180 (fun r u H locs hp hw => ?_)
        obtain ⟨er, eu⟩ := hp
        rw [← er]
        rw [← eu] at hw
        refine lv_istore (lv' := [(5, .int (nI 1)), (4, .int (nI (4 * k + 1))), (3, .ref (ad 326)), (2, .ref (ad 302)), (1, .ref (ad 0)), (0, .ref b)]) hx hb dL_law_183 hl (by decide) rfl (fun ls hl => ?_)
        refine lv_aload_n hx hb dL_law_185 rfl (lv_at hl 3 rfl) ?_
        refine lv_aload_n hx hb dL_law_186 rfl (lv_at hl 5 rfl) ?_
        refine lv_iload hx hb dL_law_187 (lv_at hl 1 rfl) ?_
        refine lv_iconst (v := nI 1) hx hb dL_law_189 (by decide) ?_
        refine n_iadd hx hb dL_law_190 ?_
        refine x_scr hx hb hX hbl hbA hw.2 (by omega) (by omega) dL_law_191 ?_
        refine x_Vi (q := 302) (As := [.int (xs (4 * k + 1 + 1))]) (rest := []) ⟨hx, hb, hml, hown, hts⟩ (k_X6_at_out l D ca 327 ad s.heap.size tR tK f dd (by omega) n' g' z' zn' tb' hRM _ (by omega) (by rw [← e15]; exact ho)) (cwV 1 hts gW_X6_at rfl rfl rfl (by decide +kernel) ⟨Nat.le_of_ble_eq_true rfl, Nat.le_of_ble_eq_true rfl⟩) hK hE hB hw (by omega) c_302 rfl rfl rfl rfl hl.1 (Nat.le_of_ble_eq_true rfl) ⟨show 327 + k + 1 ≤ 601024 by omega, show 20310 + 6 * k + 6 ≤ 7293000 by omega⟩ dL_law_192 (fun r2 u2 H locs hp hw => ?_)
        obtain ⟨er2, z2, zn2, hRM2, fr2⟩ := hp
        rw [← er2]
        have hRX2 := hRX.frame (fun y h1 => fr2 y (Or.inl h1))
        have c_326 := (fr2 326 (Or.inr (by omega))).trans c_326
        refine lv_istore (lv' := [(6, .int (nI 0)), (5, .int (nI 1)), (4, .int (nI (4 * k + 1))), (3, .ref (ad 326)), (2, .ref (ad 302)), (1, .ref (ad 0)), (0, .ref b)]) hx hb dL_law_195 hl (by decide) rfl (fun ls hl => ?_)
        refine lv_aload_n hx hb dL_law_197 rfl (lv_at hl 4 rfl) ?_
        refine x_Vi (q := 302) (As := []) (rest := []) ⟨hx, hb, hml, hown, hts⟩ (k_X6_thrown l D ca 327 ad s.heap.size tR tK u2 dd (by omega) _ _ z2 zn2 tb' hRM2) (cwV 0 hts gW_X6_thrown rfl rfl rfl (by decide +kernel) ⟨Nat.le_of_ble_eq_true rfl, Nat.le_of_ble_eq_true rfl⟩) hK hE hB hw (by omega) hRM2.1 rfl rfl rfl rfl hl.1 (Nat.le_of_ble_eq_true rfl) ⟨show 327 + k + 1 ≤ 601024 by omega, show 20310 + 6 * k + 6 ≤ 7293000 by omega⟩ dL_law_198 (fun r3 u3 H locs hp hw => ?_)
        obtain ⟨er3, eu3⟩ := hp
        rw [← er3, va_up_self]
        rw [← eu3] at hw
        refine lv_iload hx hb dL_law_201 (lv_at hl 1 rfl) ?_
        refine lv_icmp_eq (tgt := 208) hx hb dL_law_203 (by decide) (fun _ => ?_) (fun h => absurd rfl h)
        refine lv_iload hx hb dL_law_208 (lv_at hl 1 rfl) ?_
        refine lv_if_ne (tgt := 225) hx hb dL_law_210 (by decide) (fun _ => ?_) (fun h => absurd h (by decide))
        refine lv_goto (tgt := 660) hx hb dL_law_225 (by decide) ?_
        exact hNext _ _ _ _ _ _ _ _ _ _ _ _ _ _ _ (m_thr hRel 1) hRX2 hRM2 c_326 hw (lv_sub hl [2, 3, 4, 5, 6] rfl)
      · rw [ex]
        refine x_SW (n := 3) (As := [.ref (ad 0), .int (nI j), .ref (ad 326)]) (rest := []) ⟨hx, hb, hml, hown, hts⟩ (k_L_at_in l D ca 327 ad s.heap.size tR tK sa f dd (by omega) n g z zn tb hRX j h32 hj1 lg c_326) (xPreA.blind _ _ _ _ _ _ _ _ _ _) gW_L_at rfl rfl rfl ⟨Nat.le_of_ble_eq_true rfl, Nat.le_of_ble_eq_true rfl⟩ (hts _ wm_571) (hts _ wm_572) (hts _ wm_0) (by decide +kernel) (fun U hU hW => ⟨rfl, ⟨by rw [hU]; exact hw.2.1, by rw [hU]; exact hw.1, va_K.moved hW.alike hK, hE.warm hW (by rw [hU]; exact hw.2)⟩, hZ.warm hW (fun q h1 h2 => by rw [hU]; exact hw.2.2.1 q h2 (Nat.not_le.mpr h1))⟩) hw rfl rfl hl.1 (Nat.le_of_ble_eq_true rfl) ⟨show 327 + k + 1 ≤ 601024 by omega, show 20310 + 6 * k + 6 ≤ 7293000 by omega⟩ dL_law_180 (fun r u H locs hp hw => ?_)
        obtain ⟨er, eu⟩ := hp
        rw [← er]
        have hRX1 : RepX ca ad n g z zn tb u := hRX.frame (fun y h1 => by rw [eu, va_up_ne _ _ (by omega)])
        have hRM1 : RepM ca ad n' g' z' zn' tb' u := hRM.frame (fun y h1 h2 => by rw [eu, va_up_ne _ _ (by omega)])
        have c_326 : u 326 = al (ca 5) 1 (vp_updL lg 0 (wb (g 1 (j / 4)) (j % 4)).toInt64) := by rw [eu, va_up_self]
        refine lv_istore (lv' := [(5, .int (nI 0)), (4, .int (nI (4 * k + 1))), (3, .ref (ad 326)), (2, .ref (ad 302)), (1, .ref (ad 0)), (0, .ref b)]) hx hb dL_law_183 hl (by decide) rfl (fun ls hl => ?_)
        refine lv_aload_n hx hb dL_law_185 rfl (lv_at hl 3 rfl) ?_
        refine lv_aload_n hx hb dL_law_186 rfl (lv_at hl 5 rfl) ?_
        refine lv_iload hx hb dL_law_187 (lv_at hl 1 rfl) ?_
        refine lv_iconst (v := nI 1) hx hb dL_law_189 (by decide) ?_
        refine n_iadd hx hb dL_law_190 ?_
        refine x_scr hx hb hX hbl hbA hw.2 (by omega) (by omega) dL_law_191 ?_
        rw [ex]
        refine x_Vi (q := 302) (As := [.int (nI j)]) (rest := []) ⟨hx, hb, hml, hown, hts⟩ (k_X6_at_in l D ca 327 ad s.heap.size tR tK u dd (by omega) n' g' z' zn' tb' hRM1 j (by omega) (by omega)) (cwV 1 hts gW_X6_at rfl rfl rfl (by decide +kernel) ⟨Nat.le_of_ble_eq_true rfl, Nat.le_of_ble_eq_true rfl⟩) hK hE hB hw (by omega) hRM1.1 rfl rfl rfl rfl hl.1 (Nat.le_of_ble_eq_true rfl) ⟨show 327 + k + 1 ≤ 601024 by omega, show 20310 + 6 * k + 6 ≤ 7293000 by omega⟩ dL_law_192 (fun r2 u2 H locs hp hw => ?_)
        obtain ⟨er2, z2, zn2, hRM2, fr2⟩ := hp
        have ew : g' 16 j &&& nI 255 = wb (g 1 (j / 4)) (j % 4) := by rw [hRel.2.2.2.2.1 j hj1, sby_255]
        rw [← er2, ew]
        have hRX2 := hRX1.frame (fun y h1 => fr2 y (Or.inl h1))
        have c_326 := (fr2 326 (Or.inr (by omega))).trans c_326
        refine lv_istore (lv' := [(6, .int (wb (g 1 (j / 4)) (j % 4))), (5, .int (nI 0)), (4, .int (nI (4 * k + 1))), (3, .ref (ad 326)), (2, .ref (ad 302)), (1, .ref (ad 0)), (0, .ref b)]) hx hb dL_law_195 hl (by decide) rfl (fun ls hl => ?_)
        refine lv_aload_n hx hb dL_law_197 rfl (lv_at hl 4 rfl) ?_
        refine x_Vi (q := 302) (As := []) (rest := []) ⟨hx, hb, hml, hown, hts⟩ (k_X6_thrown l D ca 327 ad s.heap.size tR tK u2 dd (by omega) _ _ z2 zn2 tb' hRM2) (cwV 0 hts gW_X6_thrown rfl rfl rfl (by decide +kernel) ⟨Nat.le_of_ble_eq_true rfl, Nat.le_of_ble_eq_true rfl⟩) hK hE hB hw (by omega) hRM2.1 rfl rfl rfl rfl hl.1 (Nat.le_of_ble_eq_true rfl) ⟨show 327 + k + 1 ≤ 601024 by omega, show 20310 + 6 * k + 6 ≤ 7293000 by omega⟩ dL_law_198 (fun r3 u3 H locs hp hw => ?_)
        obtain ⟨er3, eu3⟩ := hp
        rw [← er3, va_up_self]
        rw [← eu3] at hw
        refine lv_iload hx hb dL_law_201 (lv_at hl 1 rfl) ?_
        refine lv_icmp_eq (tgt := 208) hx hb dL_law_203 (by decide) (fun _ => ?_) (fun h => absurd rfl h)
        refine lv_iload hx hb dL_law_208 (lv_at hl 1 rfl) ?_
        refine lv_if_ne (tgt := 225) hx hb dL_law_210 (by decide) (fun h => False.elim (h (by decide))) (fun _ => ?_)
        refine lv_aload_n hx hb dL_law_213 rfl (lv_at hl 3 rfl) ?_
        refine lv_iconst (v := nI 0) hx hb dL_law_214 (by decide) ?_
        refine x_lald (j := 0) hx hb hK hw 326 5 (by omega) c_326 rfl rfl (by omega) (by decide) dL_law_215 ?_
        rw [pk_uLs]
        refine lv_iload hx hb dL_law_216 (lv_at hl 0 rfl) ?_
        refine lv_i2l hx hb dL_law_218 rfl ?_
        refine lv_lcmp_eq hx hb dL_law_219 ?_
        refine lv_if_eq (tgt := 225) hx hb dL_law_220 (by decide) (fun _ => ?_) (fun h => absurd rfl h)
        refine lv_goto (tgt := 660) hx hb dL_law_225 (by decide) ?_
        exact hNext _ _ _ _ _ _ _ _ _ _ _ _ _ _ _ (m_thr hRel 0) hRX2 hRM2 c_326 hw (lv_sub hl [2, 3, 4, 5, 6] rfl)
    · refine lv_tableIn (off := 179) (tgt := 228) hx hb dL_law_49 (by decide) (by decide) (by decide) (by decide) ?_
      obtain ⟨r, n1, g1, m1, d1, sX, sM, hRel1⟩ := s_file hRel (xs (4 * k + 1 + 1)) (xs (4 * k + 1 + 2))
      refine lv_aload_n hx hb dL_law_228 rfl (lv_at hl 3 rfl) ?_
      refine lv_aload_n hx hb dL_law_229 rfl (lv_at hl 4 rfl) ?_
      refine lv_iload hx hb dL_law_230 (lv_at hl 0 rfl) ?_
      refine lv_iconst (v := nI 1) hx hb dL_law_232 (by decide) ?_
      refine n_iadd hx hb dL_law_233 ?_
      refine x_scr hx hb hX hbl hbA hw.2 (by omega) (by omega) dL_law_234 ?_
      refine lv_aload_n hx hb dL_law_235 rfl (lv_at hl 4 rfl) ?_
      refine lv_iload hx hb dL_law_236 (lv_at hl 0 rfl) ?_
      refine lv_iconst (v := nI 2) hx hb dL_law_238 (by decide) ?_
      refine n_iadd hx hb dL_law_239 ?_
      refine x_scr hx hb hX hbl hbA hw.2 (by omega) (by omega) dL_law_240 ?_
      refine x_Vi (q := 0) (As := [.int (xs (4 * k + 1 + 1)), .int (xs (4 * k + 1 + 2))]) (rest := []) ⟨hx, hb, hml, hown, hts⟩ (sX l D ca 327 ad s.heap.size tR tK f dd (by omega) z zn tb hRX) (cwV 2 hts gW_X5_file rfl rfl rfl (by decide +kernel) ⟨Nat.le_of_ble_eq_true rfl, Nat.le_of_ble_eq_true rfl⟩) hK hE hB hw (by omega) c_0 rfl rfl rfl rfl hl.1 (Nat.le_of_ble_eq_true rfl) ⟨show 327 + k ≤ 601024 by omega, show 20310 + 6 * k ≤ 7293000 by omega⟩ dL_law_241 (fun r1 u H locs hp hw => ?_)
      obtain ⟨er, z1, zn1, hRX1, fr1⟩ := hp
      rw [← er]
      have hRM1 := hRM.frame (fun y h1 _ => fr1 y h1)
      have c_302 := hRM1.1
      have c_326 := (fr1 326 (by omega)).trans c_326
      refine lv_aload_n hx hb dL_law_244 rfl (lv_at hl 2 rfl) ?_
      refine lv_aload_n hx hb dL_law_245 rfl (lv_at hl 4 rfl) ?_
      refine lv_iload hx hb dL_law_246 (lv_at hl 0 rfl) ?_
      refine lv_iconst (v := nI 1) hx hb dL_law_248 (by decide) ?_
      refine n_iadd hx hb dL_law_249 ?_
      refine x_scr hx hb hX hbl hbA hw.2 (by omega) (by omega) dL_law_250 ?_
      refine lv_aload_n hx hb dL_law_251 rfl (lv_at hl 4 rfl) ?_
      refine lv_iload hx hb dL_law_252 (lv_at hl 0 rfl) ?_
      refine lv_iconst (v := nI 2) hx hb dL_law_254 (by decide) ?_
      refine n_iadd hx hb dL_law_255 ?_
      refine x_scr hx hb hX hbl hbA hw.2 (by omega) (by omega) dL_law_256 ?_
      refine x_Vi (q := 302) (As := [.int (xs (4 * k + 1 + 1)), .int (xs (4 * k + 1 + 2))]) (rest := [.int r]) ⟨hx, hb, hml, hown, hts⟩ (sM l D ca 327 ad s.heap.size tR tK u dd (by omega) z' zn' tb' hRM1) (cwV 2 hts gW_X6_file rfl rfl rfl (by decide +kernel) ⟨Nat.le_of_ble_eq_true rfl, Nat.le_of_ble_eq_true rfl⟩) hK hE hB hw (by omega) c_302 rfl rfl rfl rfl hl.1 (Nat.le_of_ble_eq_true rfl) ⟨show 327 + k ≤ 601024 by omega, show 20310 + 6 * k ≤ 7293000 by omega⟩ dL_law_257 (fun r2 u2 H locs hp hw => ?_)
      obtain ⟨er2, z2, zn2, hRM2, fr2⟩ := hp
      rw [← er2]
      have hRX2 := hRX1.frame (fun y h1 => fr2 y (Or.inl h1))
      have c_326 := (fr2 326 (Or.inr (by omega))).trans c_326
      refine lv_icmp_eq (tgt := 660) hx hb dL_law_260 (by decide) (fun _ => ?_) (fun h => absurd rfl h)
      refine W.widen (k := 327 + k + 1) (n := 20310 + 6 * k + 6) (by omega) (by omega) ?_
      exact hNext _ _ _ _ _ _ _ _ _ _ _ _ _ _ _ hRel1 hRX2 hRM2 c_326 hw hl
    · refine lv_tableIn (off := 216) (tgt := 265) hx hb dL_law_49 (by decide) (by decide) (by decide) (by decide) ?_
      obtain ⟨r, n1, g1, m1, d1, sX, sM, hRel1⟩ := s_alter hRel (xs (4 * k + 1 + 1)) (xs (4 * k + 1 + 2)) (xs (4 * k + 1 + 3))
      refine lv_aload_n hx hb dL_law_265 rfl (lv_at hl 3 rfl) ?_
      refine lv_aload_n hx hb dL_law_266 rfl (lv_at hl 4 rfl) ?_
      refine lv_iload hx hb dL_law_267 (lv_at hl 0 rfl) ?_
      refine lv_iconst (v := nI 1) hx hb dL_law_269 (by decide) ?_
      refine n_iadd hx hb dL_law_270 ?_
      refine x_scr hx hb hX hbl hbA hw.2 (by omega) (by omega) dL_law_271 ?_
      refine lv_aload_n hx hb dL_law_272 rfl (lv_at hl 4 rfl) ?_
      refine lv_iload hx hb dL_law_273 (lv_at hl 0 rfl) ?_
      refine lv_iconst (v := nI 2) hx hb dL_law_275 (by decide) ?_
      refine n_iadd hx hb dL_law_276 ?_
      refine x_scr hx hb hX hbl hbA hw.2 (by omega) (by omega) dL_law_277 ?_
      refine lv_aload_n hx hb dL_law_278 rfl (lv_at hl 4 rfl) ?_
      refine lv_iload hx hb dL_law_279 (lv_at hl 0 rfl) ?_
      refine lv_iconst (v := nI 3) hx hb dL_law_281 (by decide) ?_
      refine n_iadd hx hb dL_law_282 ?_
      refine x_scr hx hb hX hbl hbA hw.2 (by omega) (by omega) dL_law_283 ?_
      refine x_Vi (q := 0) (As := [.int (xs (4 * k + 1 + 1)), .int (xs (4 * k + 1 + 2)), .int (xs (4 * k + 1 + 3))]) (rest := []) ⟨hx, hb, hml, hown, hts⟩ (sX l D ca 327 ad s.heap.size tR tK f dd (by omega) z zn tb hRX) (cwV 3 hts gW_X5_alter rfl rfl rfl (by decide +kernel) ⟨Nat.le_of_ble_eq_true rfl, Nat.le_of_ble_eq_true rfl⟩) hK hE hB hw (by omega) c_0 rfl rfl rfl rfl hl.1 (Nat.le_of_ble_eq_true rfl) ⟨show 327 + k ≤ 601024 by omega, show 20310 + 6 * k ≤ 7293000 by omega⟩ dL_law_284 (fun r1 u H locs hp hw => ?_)
      obtain ⟨er, z1, zn1, hRX1, fr1⟩ := hp
      rw [← er]
      have hRM1 := hRM.frame (fun y h1 _ => fr1 y h1)
      have c_302 := hRM1.1
      have c_326 := (fr1 326 (by omega)).trans c_326
      refine lv_aload_n hx hb dL_law_287 rfl (lv_at hl 2 rfl) ?_
      refine lv_aload_n hx hb dL_law_288 rfl (lv_at hl 4 rfl) ?_
      refine lv_iload hx hb dL_law_289 (lv_at hl 0 rfl) ?_
      refine lv_iconst (v := nI 1) hx hb dL_law_291 (by decide) ?_
      refine n_iadd hx hb dL_law_292 ?_
      refine x_scr hx hb hX hbl hbA hw.2 (by omega) (by omega) dL_law_293 ?_
      refine lv_aload_n hx hb dL_law_294 rfl (lv_at hl 4 rfl) ?_
      refine lv_iload hx hb dL_law_295 (lv_at hl 0 rfl) ?_
      refine lv_iconst (v := nI 2) hx hb dL_law_297 (by decide) ?_
      refine n_iadd hx hb dL_law_298 ?_
      refine x_scr hx hb hX hbl hbA hw.2 (by omega) (by omega) dL_law_299 ?_
      refine lv_aload_n hx hb dL_law_300 rfl (lv_at hl 4 rfl) ?_
      refine lv_iload hx hb dL_law_301 (lv_at hl 0 rfl) ?_
      refine lv_iconst (v := nI 3) hx hb dL_law_303 (by decide) ?_
      refine n_iadd hx hb dL_law_304 ?_
      refine x_scr hx hb hX hbl hbA hw.2 (by omega) (by omega) dL_law_305 ?_
      refine x_Vi (q := 302) (As := [.int (xs (4 * k + 1 + 1)), .int (xs (4 * k + 1 + 2)), .int (xs (4 * k + 1 + 3))]) (rest := [.int r]) ⟨hx, hb, hml, hown, hts⟩ (sM l D ca 327 ad s.heap.size tR tK u dd (by omega) z' zn' tb' hRM1) (cwV 3 hts gW_X6_alter rfl rfl rfl (by decide +kernel) ⟨Nat.le_of_ble_eq_true rfl, Nat.le_of_ble_eq_true rfl⟩) hK hE hB hw (by omega) c_302 rfl rfl rfl rfl hl.1 (Nat.le_of_ble_eq_true rfl) ⟨show 327 + k ≤ 601024 by omega, show 20310 + 6 * k ≤ 7293000 by omega⟩ dL_law_306 (fun r2 u2 H locs hp hw => ?_)
      obtain ⟨er2, z2, zn2, hRM2, fr2⟩ := hp
      rw [← er2]
      have hRX2 := hRX1.frame (fun y h1 => fr2 y (Or.inl h1))
      have c_326 := (fr2 326 (Or.inr (by omega))).trans c_326
      refine lv_icmp_eq (tgt := 660) hx hb dL_law_309 (by decide) (fun _ => ?_) (fun h => absurd rfl h)
      refine W.widen (k := 327 + k + 1) (n := 20310 + 6 * k + 6) (by omega) (by omega) ?_
      exact hNext _ _ _ _ _ _ _ _ _ _ _ _ _ _ _ hRel1 hRX2 hRM2 c_326 hw hl
    · refine lv_tableIn (off := 265) (tgt := 314) hx hb dL_law_49 (by decide) (by decide) (by decide) (by decide) ?_
      obtain ⟨r, n1, g1, m1, d1, sX, sM, hRel1⟩ := s_cut hRel (xs (4 * k + 1 + 1)) (xs (4 * k + 1 + 2))
      refine lv_aload_n hx hb dL_law_314 rfl (lv_at hl 3 rfl) ?_
      refine lv_aload_n hx hb dL_law_315 rfl (lv_at hl 4 rfl) ?_
      refine lv_iload hx hb dL_law_316 (lv_at hl 0 rfl) ?_
      refine lv_iconst (v := nI 1) hx hb dL_law_318 (by decide) ?_
      refine n_iadd hx hb dL_law_319 ?_
      refine x_scr hx hb hX hbl hbA hw.2 (by omega) (by omega) dL_law_320 ?_
      refine lv_aload_n hx hb dL_law_321 rfl (lv_at hl 4 rfl) ?_
      refine lv_iload hx hb dL_law_322 (lv_at hl 0 rfl) ?_
      refine lv_iconst (v := nI 2) hx hb dL_law_324 (by decide) ?_
      refine n_iadd hx hb dL_law_325 ?_
      refine x_scr hx hb hX hbl hbA hw.2 (by omega) (by omega) dL_law_326 ?_
      refine x_Vi (q := 0) (As := [.int (xs (4 * k + 1 + 1)), .int (xs (4 * k + 1 + 2))]) (rest := []) ⟨hx, hb, hml, hown, hts⟩ (sX l D ca 327 ad s.heap.size tR tK f dd (by omega) z zn tb hRX) (cwV 2 hts gW_X5_cut rfl rfl rfl (by decide +kernel) ⟨Nat.le_of_ble_eq_true rfl, Nat.le_of_ble_eq_true rfl⟩) hK hE hB hw (by omega) c_0 rfl rfl rfl rfl hl.1 (Nat.le_of_ble_eq_true rfl) ⟨show 327 + k ≤ 601024 by omega, show 20310 + 6 * k ≤ 7293000 by omega⟩ dL_law_327 (fun r1 u H locs hp hw => ?_)
      obtain ⟨er, z1, zn1, hRX1, fr1⟩ := hp
      rw [← er]
      have hRM1 := hRM.frame (fun y h1 _ => fr1 y h1)
      have c_302 := hRM1.1
      have c_326 := (fr1 326 (by omega)).trans c_326
      refine lv_aload_n hx hb dL_law_330 rfl (lv_at hl 2 rfl) ?_
      refine lv_aload_n hx hb dL_law_331 rfl (lv_at hl 4 rfl) ?_
      refine lv_iload hx hb dL_law_332 (lv_at hl 0 rfl) ?_
      refine lv_iconst (v := nI 1) hx hb dL_law_334 (by decide) ?_
      refine n_iadd hx hb dL_law_335 ?_
      refine x_scr hx hb hX hbl hbA hw.2 (by omega) (by omega) dL_law_336 ?_
      refine lv_aload_n hx hb dL_law_337 rfl (lv_at hl 4 rfl) ?_
      refine lv_iload hx hb dL_law_338 (lv_at hl 0 rfl) ?_
      refine lv_iconst (v := nI 2) hx hb dL_law_340 (by decide) ?_
      refine n_iadd hx hb dL_law_341 ?_
      refine x_scr hx hb hX hbl hbA hw.2 (by omega) (by omega) dL_law_342 ?_
      refine x_Vi (q := 302) (As := [.int (xs (4 * k + 1 + 1)), .int (xs (4 * k + 1 + 2))]) (rest := [.int r]) ⟨hx, hb, hml, hown, hts⟩ (sM l D ca 327 ad s.heap.size tR tK u dd (by omega) z' zn' tb' hRM1) (cwV 2 hts gW_X6_cut rfl rfl rfl (by decide +kernel) ⟨Nat.le_of_ble_eq_true rfl, Nat.le_of_ble_eq_true rfl⟩) hK hE hB hw (by omega) c_302 rfl rfl rfl rfl hl.1 (Nat.le_of_ble_eq_true rfl) ⟨show 327 + k ≤ 601024 by omega, show 20310 + 6 * k ≤ 7293000 by omega⟩ dL_law_343 (fun r2 u2 H locs hp hw => ?_)
      obtain ⟨er2, z2, zn2, hRM2, fr2⟩ := hp
      rw [← er2]
      have hRX2 := hRX1.frame (fun y h1 => fr2 y (Or.inl h1))
      have c_326 := (fr2 326 (Or.inr (by omega))).trans c_326
      refine lv_icmp_eq (tgt := 660) hx hb dL_law_346 (by decide) (fun _ => ?_) (fun h => absurd rfl h)
      refine W.widen (k := 327 + k + 1) (n := 20310 + 6 * k + 6) (by omega) (by omega) ?_
      exact hNext _ _ _ _ _ _ _ _ _ _ _ _ _ _ _ hRel1 hRX2 hRM2 c_326 hw hl
    · refine lv_tableIn (off := 302) (tgt := 351) hx hb dL_law_49 (by decide) (by decide) (by decide) (by decide) ?_
      obtain ⟨r, n1, g1, m1, d1, sX, sM, hRel1⟩ := s_read hRel (xs (4 * k + 1 + 1)) (xs (4 * k + 1 + 2))
      refine lv_aload_n hx hb dL_law_351 rfl (lv_at hl 3 rfl) ?_
      refine lv_aload_n hx hb dL_law_352 rfl (lv_at hl 4 rfl) ?_
      refine lv_iload hx hb dL_law_353 (lv_at hl 0 rfl) ?_
      refine lv_iconst (v := nI 1) hx hb dL_law_355 (by decide) ?_
      refine n_iadd hx hb dL_law_356 ?_
      refine x_scr hx hb hX hbl hbA hw.2 (by omega) (by omega) dL_law_357 ?_
      refine lv_aload_n hx hb dL_law_358 rfl (lv_at hl 4 rfl) ?_
      refine lv_iload hx hb dL_law_359 (lv_at hl 0 rfl) ?_
      refine lv_iconst (v := nI 2) hx hb dL_law_361 (by decide) ?_
      refine n_iadd hx hb dL_law_362 ?_
      refine x_scr hx hb hX hbl hbA hw.2 (by omega) (by omega) dL_law_363 ?_
      refine x_Vi (q := 0) (As := [.int (xs (4 * k + 1 + 1)), .int (xs (4 * k + 1 + 2))]) (rest := []) ⟨hx, hb, hml, hown, hts⟩ (sX l D ca 327 ad s.heap.size tR tK f dd (by omega) z zn tb hRX) (cwV 2 hts gW_X5_read rfl rfl rfl (by decide +kernel) ⟨Nat.le_of_ble_eq_true rfl, Nat.le_of_ble_eq_true rfl⟩) hK hE hB hw (by omega) c_0 rfl rfl rfl rfl hl.1 (Nat.le_of_ble_eq_true rfl) ⟨show 327 + k ≤ 601024 by omega, show 20310 + 6 * k ≤ 7293000 by omega⟩ dL_law_364 (fun r1 u H locs hp hw => ?_)
      obtain ⟨er, z1, zn1, hRX1, fr1⟩ := hp
      rw [← er]
      have hRM1 := hRM.frame (fun y h1 _ => fr1 y h1)
      have c_302 := hRM1.1
      have c_326 := (fr1 326 (by omega)).trans c_326
      refine lv_aload_n hx hb dL_law_367 rfl (lv_at hl 2 rfl) ?_
      refine lv_aload_n hx hb dL_law_368 rfl (lv_at hl 4 rfl) ?_
      refine lv_iload hx hb dL_law_369 (lv_at hl 0 rfl) ?_
      refine lv_iconst (v := nI 1) hx hb dL_law_371 (by decide) ?_
      refine n_iadd hx hb dL_law_372 ?_
      refine x_scr hx hb hX hbl hbA hw.2 (by omega) (by omega) dL_law_373 ?_
      refine lv_aload_n hx hb dL_law_374 rfl (lv_at hl 4 rfl) ?_
      refine lv_iload hx hb dL_law_375 (lv_at hl 0 rfl) ?_
      refine lv_iconst (v := nI 2) hx hb dL_law_377 (by decide) ?_
      refine n_iadd hx hb dL_law_378 ?_
      refine x_scr hx hb hX hbl hbA hw.2 (by omega) (by omega) dL_law_379 ?_
      refine x_Vi (q := 302) (As := [.int (xs (4 * k + 1 + 1)), .int (xs (4 * k + 1 + 2))]) (rest := [.int r]) ⟨hx, hb, hml, hown, hts⟩ (sM l D ca 327 ad s.heap.size tR tK u dd (by omega) z' zn' tb' hRM1) (cwV 2 hts gW_X6_read rfl rfl rfl (by decide +kernel) ⟨Nat.le_of_ble_eq_true rfl, Nat.le_of_ble_eq_true rfl⟩) hK hE hB hw (by omega) c_302 rfl rfl rfl rfl hl.1 (Nat.le_of_ble_eq_true rfl) ⟨show 327 + k ≤ 601024 by omega, show 20310 + 6 * k ≤ 7293000 by omega⟩ dL_law_380 (fun r2 u2 H locs hp hw => ?_)
      obtain ⟨er2, z2, zn2, hRM2, fr2⟩ := hp
      rw [← er2]
      have hRX2 := hRX1.frame (fun y h1 => fr2 y (Or.inl h1))
      have c_326 := (fr2 326 (Or.inr (by omega))).trans c_326
      refine lv_icmp_eq (tgt := 660) hx hb dL_law_383 (by decide) (fun _ => ?_) (fun h => absurd rfl h)
      refine W.widen (k := 327 + k + 1) (n := 20310 + 6 * k + 6) (by omega) (by omega) ?_
      exact hNext _ _ _ _ _ _ _ _ _ _ _ _ _ _ _ hRel1 hRX2 hRM2 c_326 hw hl
    · refine lv_tableIn (off := 339) (tgt := 388) hx hb dL_law_49 (by decide) (by decide) (by decide) (by decide) ?_
      obtain ⟨r, n1, g1, m1, d1, sX, sM, hRel1⟩ := s_schedule hRel (xs (4 * k + 1 + 1)) (xs (4 * k + 1 + 2)) (xs (4 * k + 1 + 3))
      refine lv_aload_n hx hb dL_law_388 rfl (lv_at hl 3 rfl) ?_
      refine lv_aload_n hx hb dL_law_389 rfl (lv_at hl 4 rfl) ?_
      refine lv_iload hx hb dL_law_390 (lv_at hl 0 rfl) ?_
      refine lv_iconst (v := nI 1) hx hb dL_law_392 (by decide) ?_
      refine n_iadd hx hb dL_law_393 ?_
      refine x_scr hx hb hX hbl hbA hw.2 (by omega) (by omega) dL_law_394 ?_
      refine lv_aload_n hx hb dL_law_395 rfl (lv_at hl 4 rfl) ?_
      refine lv_iload hx hb dL_law_396 (lv_at hl 0 rfl) ?_
      refine lv_iconst (v := nI 2) hx hb dL_law_398 (by decide) ?_
      refine n_iadd hx hb dL_law_399 ?_
      refine x_scr hx hb hX hbl hbA hw.2 (by omega) (by omega) dL_law_400 ?_
      refine lv_aload_n hx hb dL_law_401 rfl (lv_at hl 4 rfl) ?_
      refine lv_iload hx hb dL_law_402 (lv_at hl 0 rfl) ?_
      refine lv_iconst (v := nI 3) hx hb dL_law_404 (by decide) ?_
      refine n_iadd hx hb dL_law_405 ?_
      refine x_scr hx hb hX hbl hbA hw.2 (by omega) (by omega) dL_law_406 ?_
      refine x_Vi (q := 0) (As := [.int (xs (4 * k + 1 + 1)), .int (xs (4 * k + 1 + 2)), .int (xs (4 * k + 1 + 3))]) (rest := []) ⟨hx, hb, hml, hown, hts⟩ (sX l D ca 327 ad s.heap.size tR tK f dd (by omega) z zn tb hRX) (cwV 3 hts gW_X5_schedule rfl rfl rfl (by decide +kernel) ⟨Nat.le_of_ble_eq_true rfl, Nat.le_of_ble_eq_true rfl⟩) hK hE hB hw (by omega) c_0 rfl rfl rfl rfl hl.1 (Nat.le_of_ble_eq_true rfl) ⟨show 327 + k ≤ 601024 by omega, show 20310 + 6 * k ≤ 7293000 by omega⟩ dL_law_407 (fun r1 u H locs hp hw => ?_)
      obtain ⟨er, z1, zn1, hRX1, fr1⟩ := hp
      rw [← er]
      have hRM1 := hRM.frame (fun y h1 _ => fr1 y h1)
      have c_302 := hRM1.1
      have c_326 := (fr1 326 (by omega)).trans c_326
      refine lv_aload_n hx hb dL_law_410 rfl (lv_at hl 2 rfl) ?_
      refine lv_aload_n hx hb dL_law_411 rfl (lv_at hl 4 rfl) ?_
      refine lv_iload hx hb dL_law_412 (lv_at hl 0 rfl) ?_
      refine lv_iconst (v := nI 1) hx hb dL_law_414 (by decide) ?_
      refine n_iadd hx hb dL_law_415 ?_
      refine x_scr hx hb hX hbl hbA hw.2 (by omega) (by omega) dL_law_416 ?_
      refine lv_aload_n hx hb dL_law_417 rfl (lv_at hl 4 rfl) ?_
      refine lv_iload hx hb dL_law_418 (lv_at hl 0 rfl) ?_
      refine lv_iconst (v := nI 2) hx hb dL_law_420 (by decide) ?_
      refine n_iadd hx hb dL_law_421 ?_
      refine x_scr hx hb hX hbl hbA hw.2 (by omega) (by omega) dL_law_422 ?_
      refine lv_aload_n hx hb dL_law_423 rfl (lv_at hl 4 rfl) ?_
      refine lv_iload hx hb dL_law_424 (lv_at hl 0 rfl) ?_
      refine lv_iconst (v := nI 3) hx hb dL_law_426 (by decide) ?_
      refine n_iadd hx hb dL_law_427 ?_
      refine x_scr hx hb hX hbl hbA hw.2 (by omega) (by omega) dL_law_428 ?_
      refine x_Vi (q := 302) (As := [.int (xs (4 * k + 1 + 1)), .int (xs (4 * k + 1 + 2)), .int (xs (4 * k + 1 + 3))]) (rest := [.int r]) ⟨hx, hb, hml, hown, hts⟩ (sM l D ca 327 ad s.heap.size tR tK u dd (by omega) z' zn' tb' hRM1) (cwV 3 hts gW_X6_schedule rfl rfl rfl (by decide +kernel) ⟨Nat.le_of_ble_eq_true rfl, Nat.le_of_ble_eq_true rfl⟩) hK hE hB hw (by omega) c_302 rfl rfl rfl rfl hl.1 (Nat.le_of_ble_eq_true rfl) ⟨show 327 + k ≤ 601024 by omega, show 20310 + 6 * k ≤ 7293000 by omega⟩ dL_law_429 (fun r2 u2 H locs hp hw => ?_)
      obtain ⟨er2, z2, zn2, hRM2, fr2⟩ := hp
      rw [← er2]
      have hRX2 := hRX1.frame (fun y h1 => fr2 y (Or.inl h1))
      have c_326 := (fr2 326 (Or.inr (by omega))).trans c_326
      refine lv_icmp_eq (tgt := 660) hx hb dL_law_432 (by decide) (fun _ => ?_) (fun h => absurd rfl h)
      refine W.widen (k := 327 + k + 1) (n := 20310 + 6 * k + 6) (by omega) (by omega) ?_
      exact hNext _ _ _ _ _ _ _ _ _ _ _ _ _ _ _ hRel1 hRX2 hRM2 c_326 hw hl
    · refine lv_tableIn (off := 388) (tgt := 437) hx hb dL_law_49 (by decide) (by decide) (by decide) (by decide) ?_
      obtain ⟨r, n1, g1, m1, d1, sX, sM, hRel1⟩ := s_due hRel (xs (4 * k + 1 + 1))
      refine lv_aload_n hx hb dL_law_437 rfl (lv_at hl 3 rfl) ?_
      refine lv_aload_n hx hb dL_law_438 rfl (lv_at hl 4 rfl) ?_
      refine lv_iload hx hb dL_law_439 (lv_at hl 0 rfl) ?_
      refine lv_iconst (v := nI 1) hx hb dL_law_441 (by decide) ?_
      refine n_iadd hx hb dL_law_442 ?_
      refine x_scr hx hb hX hbl hbA hw.2 (by omega) (by omega) dL_law_443 ?_
      refine x_Vi (q := 0) (As := [.int (xs (4 * k + 1 + 1))]) (rest := []) ⟨hx, hb, hml, hown, hts⟩ (sX l D ca 327 ad s.heap.size tR tK f dd (by omega) z zn tb hRX) (cwV 1 hts gW_X5_due rfl rfl rfl (by decide +kernel) ⟨Nat.le_of_ble_eq_true rfl, Nat.le_of_ble_eq_true rfl⟩) hK hE hB hw (by omega) c_0 rfl rfl rfl rfl hl.1 (Nat.le_of_ble_eq_true rfl) ⟨show 327 + k ≤ 601024 by omega, show 20310 + 6 * k ≤ 7293000 by omega⟩ dL_law_444 (fun r1 u H locs hp hw => ?_)
      obtain ⟨er, z1, zn1, hRX1, fr1⟩ := hp
      rw [← er]
      have hRM1 := hRM.frame (fun y h1 _ => fr1 y h1)
      have c_302 := hRM1.1
      have c_326 := (fr1 326 (by omega)).trans c_326
      refine lv_aload_n hx hb dL_law_447 rfl (lv_at hl 2 rfl) ?_
      refine lv_aload_n hx hb dL_law_448 rfl (lv_at hl 4 rfl) ?_
      refine lv_iload hx hb dL_law_449 (lv_at hl 0 rfl) ?_
      refine lv_iconst (v := nI 1) hx hb dL_law_451 (by decide) ?_
      refine n_iadd hx hb dL_law_452 ?_
      refine x_scr hx hb hX hbl hbA hw.2 (by omega) (by omega) dL_law_453 ?_
      refine x_Vi (q := 302) (As := [.int (xs (4 * k + 1 + 1))]) (rest := [.int r]) ⟨hx, hb, hml, hown, hts⟩ (sM l D ca 327 ad s.heap.size tR tK u dd (by omega) z' zn' tb' hRM1) (cwV 1 hts gW_X6_due rfl rfl rfl (by decide +kernel) ⟨Nat.le_of_ble_eq_true rfl, Nat.le_of_ble_eq_true rfl⟩) hK hE hB hw (by omega) c_302 rfl rfl rfl rfl hl.1 (Nat.le_of_ble_eq_true rfl) ⟨show 327 + k ≤ 601024 by omega, show 20310 + 6 * k ≤ 7293000 by omega⟩ dL_law_454 (fun r2 u2 H locs hp hw => ?_)
      obtain ⟨er2, z2, zn2, hRM2, fr2⟩ := hp
      rw [← er2]
      have hRX2 := hRX1.frame (fun y h1 => fr2 y (Or.inl h1))
      have c_326 := (fr2 326 (Or.inr (by omega))).trans c_326
      refine lv_icmp_eq (tgt := 660) hx hb dL_law_457 (by decide) (fun _ => ?_) (fun h => absurd rfl h)
      refine W.widen (k := 327 + k + 1) (n := 20310 + 6 * k + 6) (by omega) (by omega) ?_
      exact hNext _ _ _ _ _ _ _ _ _ _ _ _ _ _ _ hRel1 hRX2 hRM2 c_326 hw hl
    · refine lv_tableIn (off := 413) (tgt := 462) hx hb dL_law_49 (by decide) (by decide) (by decide) (by decide) ?_
      obtain ⟨r, n1, g1, m1, d1, sX, sM, hRel1⟩ := s_told hRel (xs (4 * k + 1 + 1)) (xs (4 * k + 1 + 2))
      refine lv_aload_n hx hb dL_law_462 rfl (lv_at hl 3 rfl) ?_
      refine lv_aload_n hx hb dL_law_463 rfl (lv_at hl 4 rfl) ?_
      refine lv_iload hx hb dL_law_464 (lv_at hl 0 rfl) ?_
      refine lv_iconst (v := nI 1) hx hb dL_law_466 (by decide) ?_
      refine n_iadd hx hb dL_law_467 ?_
      refine x_scr hx hb hX hbl hbA hw.2 (by omega) (by omega) dL_law_468 ?_
      refine lv_aload_n hx hb dL_law_469 rfl (lv_at hl 4 rfl) ?_
      refine lv_iload hx hb dL_law_470 (lv_at hl 0 rfl) ?_
      refine lv_iconst (v := nI 2) hx hb dL_law_472 (by decide) ?_
      refine n_iadd hx hb dL_law_473 ?_
      refine x_scr hx hb hX hbl hbA hw.2 (by omega) (by omega) dL_law_474 ?_
      refine x_Vi (q := 0) (As := [.int (xs (4 * k + 1 + 1)), .int (xs (4 * k + 1 + 2))]) (rest := []) ⟨hx, hb, hml, hown, hts⟩ (sX l D ca 327 ad s.heap.size tR tK f dd (by omega) z zn tb hRX) (cwV 2 hts gW_X5_told rfl rfl rfl (by decide +kernel) ⟨Nat.le_of_ble_eq_true rfl, Nat.le_of_ble_eq_true rfl⟩) hK hE hB hw (by omega) c_0 rfl rfl rfl rfl hl.1 (Nat.le_of_ble_eq_true rfl) ⟨show 327 + k ≤ 601024 by omega, show 20310 + 6 * k ≤ 7293000 by omega⟩ dL_law_475 (fun r1 u H locs hp hw => ?_)
      obtain ⟨er, z1, zn1, hRX1, fr1⟩ := hp
      rw [← er]
      have hRM1 := hRM.frame (fun y h1 _ => fr1 y h1)
      have c_302 := hRM1.1
      have c_326 := (fr1 326 (by omega)).trans c_326
      refine lv_aload_n hx hb dL_law_478 rfl (lv_at hl 2 rfl) ?_
      refine lv_aload_n hx hb dL_law_479 rfl (lv_at hl 4 rfl) ?_
      refine lv_iload hx hb dL_law_480 (lv_at hl 0 rfl) ?_
      refine lv_iconst (v := nI 1) hx hb dL_law_482 (by decide) ?_
      refine n_iadd hx hb dL_law_483 ?_
      refine x_scr hx hb hX hbl hbA hw.2 (by omega) (by omega) dL_law_484 ?_
      refine lv_aload_n hx hb dL_law_485 rfl (lv_at hl 4 rfl) ?_
      refine lv_iload hx hb dL_law_486 (lv_at hl 0 rfl) ?_
      refine lv_iconst (v := nI 2) hx hb dL_law_488 (by decide) ?_
      refine n_iadd hx hb dL_law_489 ?_
      refine x_scr hx hb hX hbl hbA hw.2 (by omega) (by omega) dL_law_490 ?_
      refine x_Vi (q := 302) (As := [.int (xs (4 * k + 1 + 1)), .int (xs (4 * k + 1 + 2))]) (rest := [.int r]) ⟨hx, hb, hml, hown, hts⟩ (sM l D ca 327 ad s.heap.size tR tK u dd (by omega) z' zn' tb' hRM1) (cwV 2 hts gW_X6_told rfl rfl rfl (by decide +kernel) ⟨Nat.le_of_ble_eq_true rfl, Nat.le_of_ble_eq_true rfl⟩) hK hE hB hw (by omega) c_302 rfl rfl rfl rfl hl.1 (Nat.le_of_ble_eq_true rfl) ⟨show 327 + k ≤ 601024 by omega, show 20310 + 6 * k ≤ 7293000 by omega⟩ dL_law_491 (fun r2 u2 H locs hp hw => ?_)
      obtain ⟨er2, z2, zn2, hRM2, fr2⟩ := hp
      rw [← er2]
      have hRX2 := hRX1.frame (fun y h1 => fr2 y (Or.inl h1))
      have c_326 := (fr2 326 (Or.inr (by omega))).trans c_326
      refine lv_icmp_eq (tgt := 660) hx hb dL_law_494 (by decide) (fun _ => ?_) (fun h => absurd rfl h)
      refine W.widen (k := 327 + k + 1) (n := 20310 + 6 * k + 6) (by omega) (by omega) ?_
      exact hNext _ _ _ _ _ _ _ _ _ _ _ _ _ _ _ hRel1 hRX2 hRM2 c_326 hw hl
    · refine lv_tableIn (off := 450) (tgt := 499) hx hb dL_law_49 (by decide) (by decide) (by decide) (by decide) ?_
      obtain ⟨r, n1, g1, m1, d1, sX, sM, hRel1⟩ := s_mend hRel (xs (4 * k + 1 + 1)) (xs (4 * k + 1 + 2))
      refine lv_aload_n hx hb dL_law_499 rfl (lv_at hl 3 rfl) ?_
      refine lv_aload_n hx hb dL_law_500 rfl (lv_at hl 4 rfl) ?_
      refine lv_iload hx hb dL_law_501 (lv_at hl 0 rfl) ?_
      refine lv_iconst (v := nI 1) hx hb dL_law_503 (by decide) ?_
      refine n_iadd hx hb dL_law_504 ?_
      refine x_scr hx hb hX hbl hbA hw.2 (by omega) (by omega) dL_law_505 ?_
      refine lv_aload_n hx hb dL_law_506 rfl (lv_at hl 4 rfl) ?_
      refine lv_iload hx hb dL_law_507 (lv_at hl 0 rfl) ?_
      refine lv_iconst (v := nI 2) hx hb dL_law_509 (by decide) ?_
      refine n_iadd hx hb dL_law_510 ?_
      refine x_scr hx hb hX hbl hbA hw.2 (by omega) (by omega) dL_law_511 ?_
      refine x_Vi (q := 0) (As := [.int (xs (4 * k + 1 + 1)), .int (xs (4 * k + 1 + 2))]) (rest := []) ⟨hx, hb, hml, hown, hts⟩ (sX l D ca 327 ad s.heap.size tR tK f dd (by omega) z zn tb hRX) (cwV 2 hts gW_X5_mend rfl rfl rfl (by decide +kernel) ⟨Nat.le_of_ble_eq_true rfl, Nat.le_of_ble_eq_true rfl⟩) hK hE hB hw (by omega) c_0 rfl rfl rfl rfl hl.1 (Nat.le_of_ble_eq_true rfl) ⟨show 327 + k ≤ 601024 by omega, show 20310 + 6 * k ≤ 7293000 by omega⟩ dL_law_512 (fun r1 u H locs hp hw => ?_)
      obtain ⟨er, z1, zn1, hRX1, fr1⟩ := hp
      rw [← er]
      have hRM1 := hRM.frame (fun y h1 _ => fr1 y h1)
      have c_302 := hRM1.1
      have c_326 := (fr1 326 (by omega)).trans c_326
      refine lv_aload_n hx hb dL_law_515 rfl (lv_at hl 2 rfl) ?_
      refine lv_aload_n hx hb dL_law_516 rfl (lv_at hl 4 rfl) ?_
      refine lv_iload hx hb dL_law_517 (lv_at hl 0 rfl) ?_
      refine lv_iconst (v := nI 1) hx hb dL_law_519 (by decide) ?_
      refine n_iadd hx hb dL_law_520 ?_
      refine x_scr hx hb hX hbl hbA hw.2 (by omega) (by omega) dL_law_521 ?_
      refine lv_aload_n hx hb dL_law_522 rfl (lv_at hl 4 rfl) ?_
      refine lv_iload hx hb dL_law_523 (lv_at hl 0 rfl) ?_
      refine lv_iconst (v := nI 2) hx hb dL_law_525 (by decide) ?_
      refine n_iadd hx hb dL_law_526 ?_
      refine x_scr hx hb hX hbl hbA hw.2 (by omega) (by omega) dL_law_527 ?_
      refine x_Vi (q := 302) (As := [.int (xs (4 * k + 1 + 1)), .int (xs (4 * k + 1 + 2))]) (rest := [.int r]) ⟨hx, hb, hml, hown, hts⟩ (sM l D ca 327 ad s.heap.size tR tK u dd (by omega) z' zn' tb' hRM1) (cwV 2 hts gW_X6_mend rfl rfl rfl (by decide +kernel) ⟨Nat.le_of_ble_eq_true rfl, Nat.le_of_ble_eq_true rfl⟩) hK hE hB hw (by omega) c_302 rfl rfl rfl rfl hl.1 (Nat.le_of_ble_eq_true rfl) ⟨show 327 + k ≤ 601024 by omega, show 20310 + 6 * k ≤ 7293000 by omega⟩ dL_law_528 (fun r2 u2 H locs hp hw => ?_)
      obtain ⟨er2, z2, zn2, hRM2, fr2⟩ := hp
      rw [← er2]
      have hRX2 := hRX1.frame (fun y h1 => fr2 y (Or.inl h1))
      have c_326 := (fr2 326 (Or.inr (by omega))).trans c_326
      refine lv_icmp_eq (tgt := 660) hx hb dL_law_531 (by decide) (fun _ => ?_) (fun h => absurd rfl h)
      refine W.widen (k := 327 + k + 1) (n := 20310 + 6 * k + 6) (by omega) (by omega) ?_
      exact hNext _ _ _ _ _ _ _ _ _ _ _ _ _ _ _ hRel1 hRX2 hRM2 c_326 hw hl
    · refine lv_tableIn (off := 487) (tgt := 536) hx hb dL_law_49 (by decide) (by decide) (by decide) (by decide) ?_
      obtain ⟨r, n1, g1, m1, d1, sX, sM, hRel1⟩ := s_about hRel (xs (4 * k + 1 + 1)) (xs (4 * k + 1 + 2))
      refine lv_aload_n hx hb dL_law_536 rfl (lv_at hl 3 rfl) ?_
      refine lv_aload_n hx hb dL_law_537 rfl (lv_at hl 4 rfl) ?_
      refine lv_iload hx hb dL_law_538 (lv_at hl 0 rfl) ?_
      refine lv_iconst (v := nI 1) hx hb dL_law_540 (by decide) ?_
      refine n_iadd hx hb dL_law_541 ?_
      refine x_scr hx hb hX hbl hbA hw.2 (by omega) (by omega) dL_law_542 ?_
      refine lv_aload_n hx hb dL_law_543 rfl (lv_at hl 4 rfl) ?_
      refine lv_iload hx hb dL_law_544 (lv_at hl 0 rfl) ?_
      refine lv_iconst (v := nI 2) hx hb dL_law_546 (by decide) ?_
      refine n_iadd hx hb dL_law_547 ?_
      refine x_scr hx hb hX hbl hbA hw.2 (by omega) (by omega) dL_law_548 ?_
      refine x_Vi (q := 0) (As := [.int (xs (4 * k + 1 + 1)), .int (xs (4 * k + 1 + 2))]) (rest := []) ⟨hx, hb, hml, hown, hts⟩ (sX l D ca 327 ad s.heap.size tR tK f dd (by omega) z zn tb hRX) (cwV 2 hts gW_X5_about rfl rfl rfl (by decide +kernel) ⟨Nat.le_of_ble_eq_true rfl, Nat.le_of_ble_eq_true rfl⟩) hK hE hB hw (by omega) c_0 rfl rfl rfl rfl hl.1 (Nat.le_of_ble_eq_true rfl) ⟨show 327 + k ≤ 601024 by omega, show 20310 + 6 * k ≤ 7293000 by omega⟩ dL_law_549 (fun r1 u H locs hp hw => ?_)
      obtain ⟨er, z1, zn1, hRX1, fr1⟩ := hp
      rw [← er]
      have hRM1 := hRM.frame (fun y h1 _ => fr1 y h1)
      have c_302 := hRM1.1
      have c_326 := (fr1 326 (by omega)).trans c_326
      refine lv_aload_n hx hb dL_law_552 rfl (lv_at hl 2 rfl) ?_
      refine lv_aload_n hx hb dL_law_553 rfl (lv_at hl 4 rfl) ?_
      refine lv_iload hx hb dL_law_554 (lv_at hl 0 rfl) ?_
      refine lv_iconst (v := nI 1) hx hb dL_law_556 (by decide) ?_
      refine n_iadd hx hb dL_law_557 ?_
      refine x_scr hx hb hX hbl hbA hw.2 (by omega) (by omega) dL_law_558 ?_
      refine lv_aload_n hx hb dL_law_559 rfl (lv_at hl 4 rfl) ?_
      refine lv_iload hx hb dL_law_560 (lv_at hl 0 rfl) ?_
      refine lv_iconst (v := nI 2) hx hb dL_law_562 (by decide) ?_
      refine n_iadd hx hb dL_law_563 ?_
      refine x_scr hx hb hX hbl hbA hw.2 (by omega) (by omega) dL_law_564 ?_
      refine x_Vi (q := 302) (As := [.int (xs (4 * k + 1 + 1)), .int (xs (4 * k + 1 + 2))]) (rest := [.int r]) ⟨hx, hb, hml, hown, hts⟩ (sM l D ca 327 ad s.heap.size tR tK u dd (by omega) z' zn' tb' hRM1) (cwV 2 hts gW_X6_about rfl rfl rfl (by decide +kernel) ⟨Nat.le_of_ble_eq_true rfl, Nat.le_of_ble_eq_true rfl⟩) hK hE hB hw (by omega) c_302 rfl rfl rfl rfl hl.1 (Nat.le_of_ble_eq_true rfl) ⟨show 327 + k ≤ 601024 by omega, show 20310 + 6 * k ≤ 7293000 by omega⟩ dL_law_565 (fun r2 u2 H locs hp hw => ?_)
      obtain ⟨er2, z2, zn2, hRM2, fr2⟩ := hp
      rw [← er2]
      have hRX2 := hRX1.frame (fun y h1 => fr2 y (Or.inl h1))
      have c_326 := (fr2 326 (Or.inr (by omega))).trans c_326
      refine lv_icmp_eq (tgt := 660) hx hb dL_law_568 (by decide) (fun _ => ?_) (fun h => absurd rfl h)
      refine W.widen (k := 327 + k + 1) (n := 20310 + 6 * k + 6) (by omega) (by omega) ?_
      exact hNext _ _ _ _ _ _ _ _ _ _ _ _ _ _ _ hRel1 hRX2 hRM2 c_326 hw hl
    · refine lv_tableIn (off := 524) (tgt := 573) hx hb dL_law_49 (by decide) (by decide) (by decide) (by decide) ?_
      obtain ⟨r, n1, g1, m1, d1, sX, sM, hRel1⟩ := s_row hRel (xs (4 * k + 1 + 1)) (xs (4 * k + 1 + 2))
      refine lv_aload_n hx hb dL_law_573 rfl (lv_at hl 3 rfl) ?_
      refine lv_aload_n hx hb dL_law_574 rfl (lv_at hl 4 rfl) ?_
      refine lv_iload hx hb dL_law_575 (lv_at hl 0 rfl) ?_
      refine lv_iconst (v := nI 1) hx hb dL_law_577 (by decide) ?_
      refine n_iadd hx hb dL_law_578 ?_
      refine x_scr hx hb hX hbl hbA hw.2 (by omega) (by omega) dL_law_579 ?_
      refine lv_aload_n hx hb dL_law_580 rfl (lv_at hl 4 rfl) ?_
      refine lv_iload hx hb dL_law_581 (lv_at hl 0 rfl) ?_
      refine lv_iconst (v := nI 2) hx hb dL_law_583 (by decide) ?_
      refine n_iadd hx hb dL_law_584 ?_
      refine x_scr hx hb hX hbl hbA hw.2 (by omega) (by omega) dL_law_585 ?_
      refine x_Vi (q := 0) (As := [.int (xs (4 * k + 1 + 1)), .int (xs (4 * k + 1 + 2))]) (rest := []) ⟨hx, hb, hml, hown, hts⟩ (sX l D ca 327 ad s.heap.size tR tK f dd (by omega) z zn tb hRX) (cwV 2 hts gW_X5_row rfl rfl rfl (by decide +kernel) ⟨Nat.le_of_ble_eq_true rfl, Nat.le_of_ble_eq_true rfl⟩) hK hE hB hw (by omega) c_0 rfl rfl rfl rfl hl.1 (Nat.le_of_ble_eq_true rfl) ⟨show 327 + k ≤ 601024 by omega, show 20310 + 6 * k ≤ 7293000 by omega⟩ dL_law_586 (fun r1 u H locs hp hw => ?_)
      obtain ⟨er, z1, zn1, hRX1, fr1⟩ := hp
      rw [← er]
      have hRM1 := hRM.frame (fun y h1 _ => fr1 y h1)
      have c_302 := hRM1.1
      have c_326 := (fr1 326 (by omega)).trans c_326
      refine lv_aload_n hx hb dL_law_589 rfl (lv_at hl 2 rfl) ?_
      refine lv_aload_n hx hb dL_law_590 rfl (lv_at hl 4 rfl) ?_
      refine lv_iload hx hb dL_law_591 (lv_at hl 0 rfl) ?_
      refine lv_iconst (v := nI 1) hx hb dL_law_593 (by decide) ?_
      refine n_iadd hx hb dL_law_594 ?_
      refine x_scr hx hb hX hbl hbA hw.2 (by omega) (by omega) dL_law_595 ?_
      refine lv_aload_n hx hb dL_law_596 rfl (lv_at hl 4 rfl) ?_
      refine lv_iload hx hb dL_law_597 (lv_at hl 0 rfl) ?_
      refine lv_iconst (v := nI 2) hx hb dL_law_599 (by decide) ?_
      refine n_iadd hx hb dL_law_600 ?_
      refine x_scr hx hb hX hbl hbA hw.2 (by omega) (by omega) dL_law_601 ?_
      refine x_Vi (q := 302) (As := [.int (xs (4 * k + 1 + 1)), .int (xs (4 * k + 1 + 2))]) (rest := [.int r]) ⟨hx, hb, hml, hown, hts⟩ (sM l D ca 327 ad s.heap.size tR tK u dd (by omega) z' zn' tb' hRM1) (cwV 2 hts gW_X6_row rfl rfl rfl (by decide +kernel) ⟨Nat.le_of_ble_eq_true rfl, Nat.le_of_ble_eq_true rfl⟩) hK hE hB hw (by omega) c_302 rfl rfl rfl rfl hl.1 (Nat.le_of_ble_eq_true rfl) ⟨show 327 + k ≤ 601024 by omega, show 20310 + 6 * k ≤ 7293000 by omega⟩ dL_law_602 (fun r2 u2 H locs hp hw => ?_)
      obtain ⟨er2, z2, zn2, hRM2, fr2⟩ := hp
      rw [← er2]
      have hRX2 := hRX1.frame (fun y h1 => fr2 y (Or.inl h1))
      have c_326 := (fr2 326 (Or.inr (by omega))).trans c_326
      refine lv_icmp_eq (tgt := 660) hx hb dL_law_605 (by decide) (fun _ => ?_) (fun h => absurd rfl h)
      refine W.widen (k := 327 + k + 1) (n := 20310 + 6 * k + 6) (by omega) (by omega) ?_
      exact hNext _ _ _ _ _ _ _ _ _ _ _ _ _ _ _ hRel1 hRX2 hRM2 c_326 hw hl
    · refine lv_tableIn (off := 561) (tgt := 610) hx hb dL_law_49 (by decide) (by decide) (by decide) (by decide) ?_
      obtain ⟨r, n1, g1, m1, d1, sX, sM, hRel1⟩ := s_spoil hRel (xs (4 * k + 1 + 1)) (xs (4 * k + 1 + 2))
      refine lv_aload_n hx hb dL_law_610 rfl (lv_at hl 3 rfl) ?_
      refine lv_aload_n hx hb dL_law_611 rfl (lv_at hl 4 rfl) ?_
      refine lv_iload hx hb dL_law_612 (lv_at hl 0 rfl) ?_
      refine lv_iconst (v := nI 1) hx hb dL_law_614 (by decide) ?_
      refine n_iadd hx hb dL_law_615 ?_
      refine x_scr hx hb hX hbl hbA hw.2 (by omega) (by omega) dL_law_616 ?_
      refine lv_aload_n hx hb dL_law_617 rfl (lv_at hl 4 rfl) ?_
      refine lv_iload hx hb dL_law_618 (lv_at hl 0 rfl) ?_
      refine lv_iconst (v := nI 2) hx hb dL_law_620 (by decide) ?_
      refine n_iadd hx hb dL_law_621 ?_
      refine x_scr hx hb hX hbl hbA hw.2 (by omega) (by omega) dL_law_622 ?_
      refine x_Vi (q := 0) (As := [.int (xs (4 * k + 1 + 1)), .int (xs (4 * k + 1 + 2))]) (rest := []) ⟨hx, hb, hml, hown, hts⟩ (sX l D ca 327 ad s.heap.size tR tK f dd (by omega) z zn tb hRX) (cwV 2 hts gW_X5_spoil rfl rfl rfl (by decide +kernel) ⟨Nat.le_of_ble_eq_true rfl, Nat.le_of_ble_eq_true rfl⟩) hK hE hB hw (by omega) c_0 rfl rfl rfl rfl hl.1 (Nat.le_of_ble_eq_true rfl) ⟨show 327 + k ≤ 601024 by omega, show 20310 + 6 * k ≤ 7293000 by omega⟩ dL_law_623 (fun r1 u H locs hp hw => ?_)
      obtain ⟨er, z1, zn1, hRX1, fr1⟩ := hp
      rw [← er]
      have hRM1 := hRM.frame (fun y h1 _ => fr1 y h1)
      have c_302 := hRM1.1
      have c_326 := (fr1 326 (by omega)).trans c_326
      refine lv_aload_n hx hb dL_law_626 rfl (lv_at hl 2 rfl) ?_
      refine lv_aload_n hx hb dL_law_627 rfl (lv_at hl 4 rfl) ?_
      refine lv_iload hx hb dL_law_628 (lv_at hl 0 rfl) ?_
      refine lv_iconst (v := nI 1) hx hb dL_law_630 (by decide) ?_
      refine n_iadd hx hb dL_law_631 ?_
      refine x_scr hx hb hX hbl hbA hw.2 (by omega) (by omega) dL_law_632 ?_
      refine lv_aload_n hx hb dL_law_633 rfl (lv_at hl 4 rfl) ?_
      refine lv_iload hx hb dL_law_634 (lv_at hl 0 rfl) ?_
      refine lv_iconst (v := nI 2) hx hb dL_law_636 (by decide) ?_
      refine n_iadd hx hb dL_law_637 ?_
      refine x_scr hx hb hX hbl hbA hw.2 (by omega) (by omega) dL_law_638 ?_
      refine x_Vi (q := 302) (As := [.int (xs (4 * k + 1 + 1)), .int (xs (4 * k + 1 + 2))]) (rest := [.int r]) ⟨hx, hb, hml, hown, hts⟩ (sM l D ca 327 ad s.heap.size tR tK u dd (by omega) z' zn' tb' hRM1) (cwV 2 hts gW_X6_spoil rfl rfl rfl (by decide +kernel) ⟨Nat.le_of_ble_eq_true rfl, Nat.le_of_ble_eq_true rfl⟩) hK hE hB hw (by omega) c_302 rfl rfl rfl rfl hl.1 (Nat.le_of_ble_eq_true rfl) ⟨show 327 + k ≤ 601024 by omega, show 20310 + 6 * k ≤ 7293000 by omega⟩ dL_law_639 (fun r2 u2 H locs hp hw => ?_)
      obtain ⟨er2, z2, zn2, hRM2, fr2⟩ := hp
      rw [← er2]
      have hRX2 := hRX1.frame (fun y h1 => fr2 y (Or.inl h1))
      have c_326 := (fr2 326 (Or.inr (by omega))).trans c_326
      refine lv_icmp_eq (tgt := 660) hx hb dL_law_642 (by decide) (fun _ => ?_) (fun h => absurd rfl h)
      refine W.widen (k := 327 + k + 1) (n := 20310 + 6 * k + 6) (by omega) (by omega) ?_
      exact hNext _ _ _ _ _ _ _ _ _ _ _ _ _ _ _ hRel1 hRX2 hRM2 c_326 hw hl
    · refine lv_tableIn (off := 598) (tgt := 647) hx hb dL_law_49 (by decide) (by decide) (by decide) (by decide) ?_
      obtain ⟨r, n1, g1, m1, d1, sX, sM, hRel1⟩ := s_chain hRel 
      refine lv_aload_n hx hb dL_law_647 rfl (lv_at hl 3 rfl) ?_
      refine x_Vi (q := 0) (As := []) (rest := []) ⟨hx, hb, hml, hown, hts⟩ (sX l D ca 327 ad s.heap.size tR tK f dd (by omega) z zn tb hRX) (cwV 0 hts gW_X5_chain rfl rfl rfl (by decide +kernel) ⟨Nat.le_of_ble_eq_true rfl, Nat.le_of_ble_eq_true rfl⟩) hK hE hB hw (by omega) c_0 rfl rfl rfl rfl hl.1 (Nat.le_of_ble_eq_true rfl) ⟨show 327 + k ≤ 601024 by omega, show 20310 + 6 * k ≤ 7293000 by omega⟩ dL_law_648 (fun r1 u H locs hp hw => ?_)
      obtain ⟨er, z1, zn1, hRX1, fr1⟩ := hp
      rw [← er]
      have hRM1 := hRM.frame (fun y h1 _ => fr1 y h1)
      have c_302 := hRM1.1
      have c_326 := (fr1 326 (by omega)).trans c_326
      refine lv_aload_n hx hb dL_law_651 rfl (lv_at hl 2 rfl) ?_
      refine x_Vi (q := 302) (As := []) (rest := [.int r]) ⟨hx, hb, hml, hown, hts⟩ (sM l D ca 327 ad s.heap.size tR tK u dd (by omega) z' zn' tb' hRM1) (cwV 0 hts gW_X6_chain rfl rfl rfl (by decide +kernel) ⟨Nat.le_of_ble_eq_true rfl, Nat.le_of_ble_eq_true rfl⟩) hK hE hB hw (by omega) c_302 rfl rfl rfl rfl hl.1 (Nat.le_of_ble_eq_true rfl) ⟨show 327 + k ≤ 601024 by omega, show 20310 + 6 * k ≤ 7293000 by omega⟩ dL_law_652 (fun r2 u2 H locs hp hw => ?_)
      obtain ⟨er2, z2, zn2, hRM2, fr2⟩ := hp
      rw [← er2]
      have hRX2 := hRX1.frame (fun y h1 => fr2 y (Or.inl h1))
      have c_326 := (fr2 326 (Or.inr (by omega))).trans c_326
      refine lv_icmp_eq (tgt := 660) hx hb dL_law_655 (by decide) (fun _ => ?_) (fun h => absurd rfl h)
      refine W.widen (k := 327 + k + 1) (n := 20310 + 6 * k + 6) (by omega) (by omega) ?_
      exact hNext _ _ _ _ _ _ _ _ _ _ _ _ _ _ _ hRel1 hRX2 hRM2 c_326 hw hl
    · refine lv_tableOut (tgt := 660) hx hb dL_law_49 (Or.inr (by decide)) (by decide) ?_
      refine W.widen (k := 327 + k + 1) (n := 20310 + 6 * k + 6) (by omega) (by omega) ?_
      exact hNext _ _ _ _ _ _ _ _ _ _ _ _ _ _ _ hRel hRX hRM c_326 hw hl
