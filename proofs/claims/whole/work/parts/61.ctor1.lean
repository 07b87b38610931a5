/-! ===== the class's constructors ===== -/
def z0 : Nat → Int32 := fun _ => 0
theorem z0_i (cA : ClassId) (n : Nat) : vp_cell cA (n, .inl z0) = arrV cA n (fun _ => defaultValue .int) := rfl
theorem z0_b (cA : ClassId) (n : Nat) : vp_cell cA (n, .inl z0) = arrV cA n (fun _ => defaultValue .byte) := rfl
theorem z0_z (cA : ClassId) (n : Nat) : vp_cell cA (n, .inl z0) = arrV cA n (fun _ => defaultValue .boolean) := rfl

section WC
variable {p : Program} {l : Launch} {e : Env} {R : Room} {s : State} {m : MethodId} {args : Array Value} {below : List Frame} {meth : Method} {c : Code} {H : Heap} {locs : List Loc} {c1 c2 s1 s2 : Nat} {Q : State → Prop} {g : JFrame}
theorem W_cast (h : W p l e R s m args below meth c H locs c1 s1 Q g) (e1 : c1 = c2) (e2 : s1 = s2) : W p l e R s m args below meth c H locs c2 s2 Q g := by
  rw [← e1, ← e2]
  exact h
end WC
/-- the table's entries, as far as they are laid -/
def ctb (i : Nat) : Nat → Int32 := fun j => if j < i then crcN (nI j) 8 else 0
theorem ctb_0 : ctb 0 = z0 := by
  funext j
  exact if_neg (Nat.not_lt_zero j)
theorem ctb_s (i : Nat) : upd (ctb i) i (crcN (nI i) 8) = ctb (i + 1) := by
  funext j
  simp only [upd, ctb]
  by_cases h : j = i
  · simp [h]
  · by_cases h1 : j < i
    · simp [h, h1, Nat.lt_succ_of_lt h1]
    · have : ¬ j < i + 1 := by omega
      simp [h, h1, this]
theorem up_x4 {f : Nat → va_E} {N q : Nat} {a o b : va_E} (h : q ≠ N) : va_up (va_up (va_up f N a) q o) N b = va_up (va_up f N b) q o := by
  funext j
  simp only [va_up]
  by_cases h1 : j = q
  · simp [h1, h]
  · by_cases h2 : j = N
    · have h3 : ¬ N = q := fun z => h z.symm
      simp [h2, h3]
    · simp [h1, h2]

theorem up_x0 {f : Nat → va_E} {N q : Nat} {n0 a b d o o1 o2 o3 : va_E} (h : q ≠ N) (h1 : q ≠ N + 1) (h2 : q ≠ N + 2) : va_up (va_up (va_up (va_up (va_up (va_up (va_up (va_up f N n0) (N + 1) a) N b) q o) (N + 2) d) q o1) q o2) q o3 = va_up (va_up (va_up (va_up f (N + 1) a) N b) (N + 2) d) q o3 := by
  funext j
  simp only [va_up]
  by_cases e : j = q
  · simp [e]
  · by_cases e1 : j = N
    · simp only [if_neg e]
      simp [e1]
    · simp [e, e1]

theorem up_x1 {f : Nat → va_E} {N q : Nat} {a b o o' : va_E} (h : q ≠ N) (h1 : q ≠ N + 1) : va_up (va_up (va_up (va_up f N a) q o) (N + 1) b) q o' = va_up (va_up (va_up f N a) (N + 1) b) q o' := by
  funext j
  simp only [va_up]
  by_cases h2 : j = q
  · simp [h2]
  · simp [h2]

abbrev rmX2_init : Room := { frames := 1, cells := 1, slots := 200, locals := 21 }

set_option maxHeartbeats 4000000 in
set_option maxRecDepth 100000 in
theorem k_X2_init (l : Launch) (D : va_G) (ca : Nat → ClassId) (N : Nat) (ad : Nat → Nat) (B tR tK : Nat) (f : Nat → va_E) (had : ∀ k, ad k = B + k) (q : Nat) (l_q : q < N) (c_q : f q = .inr (3, [.null, .int (nI 0)]))  : xMc l yX2_init wsX2_init rmX2_init [.ref (ad q)] D ca N (N + 1) ad B tR tK f (fun u => u = va_up (va_up f N (ai (ca 0) 200 z0)) q (.inr (3, [.ref (ad N), .int (nI 0)]))) 1 200 := by
  refine x_openC (cc := cX2_init) (maxL := 1) (ret := none) (by decide) rfl (Nat.le_of_ble_eq_true rfl) ?_
  intro p e s m below meth c ls hx hb hml hown hts hr hlocks hnm hB hK hE hz hO hw hl
  have hown : s.vm.findClass RX2 = some m.cls := hown
  have hl : lv_has ls 1 [(0, .ref (ad q))] := hl
  have dd := xD_of had N
  have hs : s.heap.size + 0 ≤ B + N := by omega
  have hin_3 : ∀ w ∈ u_ws RX2 TX2 2, w ∈ wsX2_init := by decide +kernel
  have hf_9 := hts (.fieldLink RX2 9 "FixityRows$Octets" "values" "[I") (by decide +kernel)
  have b_q := c_q
  refine lv_aload_n hx hb dX2_init_0 rfl (lv_at hl 0 rfl) ?_
  refine W.objInit hx hb hown (hts (.methodLink RX2 3 objectInit) (by decide +kernel)) (hts (.instanceMethod objectInit) (by decide +kernel)) (hts _ (List.mem_of_getElem? (i := 3) rfl)) rfl (by rw [hml]; exact hl.1) rfl dX2_init_1 (Nat.le_of_ble_eq_true rfl) (Nat.le_of_ble_eq_true rfl) ?_
  refine W.eq (g2 := F0 m 4 ls []) rfl ?_
  refine lv_aload_n hx hb dX2_init_4 rfl (lv_at hl 0 rfl) ?_
  refine lv_sipush (v := nI 200) hx hb dX2_init_5 (by decide) ?_
  refine x_newa (atype := .int) (ty := .int) (cT := ca 0) (N' := 200) (z := (200, .inl z0)) hx hb (hts (.arrayClass .int) (by decide +kernel)) rfl hK had hB hs hw 0 rfl (fun _ _ h => h) (fun cA => z0_i cA _) (by decide) (nI_clamp (by decide)) (by decide) (Nat.le_of_ble_eq_true rfl) (Nat.le_of_ble_eq_true rfl) dX2_init_8 (fun H hw => ?_)
  obtain ⟨f_1, ef_1⟩ : ∃ z, z = va_up f N (ai (ca 0) 200 z0) := ⟨_, rfl⟩
  have dd := xD_of had (N + 1)
  have hs : s.heap.size + 1 ≤ B + (N + 1) := by omega
  have hw : xw D vwCl (N + 1) ad B s.heap f_1 H [] := by rw [ef_1]; exact hw
  have c_N : f_1 N = ai (ca 0) 200 z0 := va_up_of ef_1
  have c_q : f_1 q = .inr (3, [.null, .int (nI 0)]) := by rw [ef_1, va_up_ne _ _ (by omega)]; exact c_q
  refine x_putF (ci := 3) (C := RX2) (T := TX2) (n := 2) (ref := RX2) (fs' := [.ref (ad N), .int (nI 0)]) hx hb hts hin_3 tyX2 tyX2_ok nmX2 hown hK dd hw q (by omega) c_q rfl 0 (by decide) hf_9 (fun _ h => h) rfl hnm rfl rfl rfl (Nat.le_of_ble_eq_true rfl) rfl dX2_init_10 (fun H locs hw => ?_)
  obtain ⟨f_2, ef_2⟩ : ∃ z, z = va_up f_1 q (.inr (3, [.ref (ad N), .int (nI 0)])) := ⟨_, rfl⟩
  have hw : xw D vwCl (N + 1) ad B s.heap f_2 H locs := by rw [ef_2]; exact hw
  have c_q : f_2 q = .inr (3, [.ref (ad N), .int (nI 0)]) := va_up_of ef_2
  exact x_vret hx hb hr hlocks hw (by simp only [ef_2, ef_1]) dX2_init_13

abbrev rmX1_init : Room := { frames := 1, cells := 2, slots := 72, locals := 21 }

set_option maxHeartbeats 4000000 in
set_option maxRecDepth 100000 in
theorem k_X1_init (l : Launch) (D : va_G) (ca : Nat → ClassId) (N : Nat) (ad : Nat → Nat) (B tR tK : Nat) (f : Nat → va_E) (had : ∀ k, ad k = B + k) (q : Nat) (l_q : q < N) (c_q : f q = .inr (2, [.null, .null]))  : xMc l yX1_init wsX1_init rmX1_init [.ref (ad q)] D ca N (N + 2) ad B tR tK f (fun u => u = va_up (va_up (va_up f N (ai (ca 0) 8 z0)) (N + 1) (ai (ca 0) 64 z0)) q (.inr (2, [.ref (ad N), .ref (ad (N + 1))]))) 2 72 := by
  refine x_openC (cc := cX1_init) (maxL := 1) (ret := none) (by decide) rfl (Nat.le_of_ble_eq_true rfl) ?_
  intro p e s m below meth c ls hx hb hml hown hts hr hlocks hnm hB hK hE hz hO hw hl
  have hown : s.vm.findClass RX1 = some m.cls := hown
  have hl : lv_has ls 1 [(0, .ref (ad q))] := hl
  have dd := xD_of had N
  have hs : s.heap.size + 0 ≤ B + N := by omega
  have hin_2 : ∀ w ∈ u_ws RX1 TX1 2, w ∈ wsX1_init := by decide +kernel
  have hf_9 := hts (.fieldLink RX1 9 "FixityRows$LongDigest" "eight" "[I") (by decide +kernel)
  have hf_15 := hts (.fieldLink RX1 15 "FixityRows$LongDigest" "w" "[I") (by decide +kernel)
  have b_q := c_q
  refine lv_aload_n hx hb dX1_init_0 rfl (lv_at hl 0 rfl) ?_
  refine W.objInit hx hb hown (hts (.methodLink RX1 3 objectInit) (by decide +kernel)) (hts (.instanceMethod objectInit) (by decide +kernel)) (hts _ (List.mem_of_getElem? (i := 3) rfl)) rfl (by rw [hml]; exact hl.1) rfl dX1_init_1 (Nat.le_of_ble_eq_true rfl) (Nat.le_of_ble_eq_true rfl) ?_
  refine W.eq (g2 := F0 m 4 ls []) rfl ?_
  refine lv_aload_n hx hb dX1_init_4 rfl (lv_at hl 0 rfl) ?_
  refine lv_bipush (v := nI 8) hx hb dX1_init_5 (by decide) ?_
  refine x_newa (atype := .int) (ty := .int) (cT := ca 0) (N' := 8) (z := (8, .inl z0)) hx hb (hts (.arrayClass .int) (by decide +kernel)) rfl hK had hB hs hw 0 rfl (fun _ _ h => h) (fun cA => z0_i cA _) (by decide) (nI_clamp (by decide)) (by decide) (Nat.le_of_ble_eq_true rfl) (Nat.le_of_ble_eq_true rfl) dX1_init_7 (fun H hw => ?_)
  obtain ⟨f_1, ef_1⟩ : ∃ z, z = va_up f N (ai (ca 0) 8 z0) := ⟨_, rfl⟩
  have dd := xD_of had (N + 1)
  have hs : s.heap.size + 1 ≤ B + (N + 1) := by omega
  have hw : xw D vwCl (N + 1) ad B s.heap f_1 H [] := by rw [ef_1]; exact hw
  have c_N : f_1 N = ai (ca 0) 8 z0 := va_up_of ef_1
  have c_q : f_1 q = .inr (2, [.null, .null]) := by rw [ef_1, va_up_ne _ _ (by omega)]; exact c_q
  refine x_putF (ci := 2) (C := RX1) (T := TX1) (n := 2) (ref := RX1) (fs' := [.ref (ad N), .null]) hx hb hts hin_2 tyX1 tyX1_ok nmX1 hown hK dd hw q (by omega) c_q rfl 0 (by decide) hf_9 (fun _ h => h) rfl hnm rfl rfl rfl (Nat.le_of_ble_eq_true rfl) rfl dX1_init_9 (fun H locs hw => ?_)
  obtain ⟨f_2, ef_2⟩ : ∃ z, z = va_up f_1 q (.inr (2, [.ref (ad N), .null])) := ⟨_, rfl⟩
  have hw : xw D vwCl (N + 1) ad B s.heap f_2 H locs := by rw [ef_2]; exact hw
  have c_q : f_2 q = .inr (2, [.ref (ad N), .null]) := va_up_of ef_2
  refine lv_aload_n hx hb dX1_init_12 rfl (lv_at hl 0 rfl) ?_
  refine lv_bipush (v := nI 64) hx hb dX1_init_13 (by decide) ?_
  refine x_newa (atype := .int) (ty := .int) (cT := ca 0) (N' := 64) (z := (64, .inl z0)) hx hb (hts (.arrayClass .int) (by decide +kernel)) rfl hK had hB hs hw 0 rfl (fun _ _ h => h) (fun cA => z0_i cA _) (by decide) (nI_clamp (by decide)) (by decide) (Nat.le_of_ble_eq_true rfl) (Nat.le_of_ble_eq_true rfl) dX1_init_15 (fun H hw => ?_)
  obtain ⟨f_3, ef_3⟩ : ∃ z, z = va_up f_2 (N + 1) (ai (ca 0) 64 z0) := ⟨_, rfl⟩
  have dd := xD_of had (N + 2)
  have hs : s.heap.size + 2 ≤ B + (N + 2) := by omega
  have hw : xw D vwCl (N + 2) ad B s.heap f_3 H locs := by rw [ef_3]; exact hw
  have c_N_1 : f_3 (N + 1) = ai (ca 0) 64 z0 := va_up_of ef_3
  have c_q : f_3 q = .inr (2, [.ref (ad N), .null]) := by rw [ef_3, va_up_ne _ _ (by omega)]; exact c_q
  refine x_putF (ci := 2) (C := RX1) (T := TX1) (n := 2) (ref := RX1) (fs' := [.ref (ad N), .ref (ad (N + 1))]) hx hb hts hin_2 tyX1 tyX1_ok nmX1 hown hK dd hw q (by omega) c_q rfl 1 (by decide) hf_15 (fun _ h => h) rfl hnm rfl rfl rfl (Nat.le_of_ble_eq_true rfl) rfl dX1_init_17 (fun H locs hw => ?_)
  obtain ⟨f_4, ef_4⟩ : ∃ z, z = va_up f_3 q (.inr (2, [.ref (ad N), .ref (ad (N + 1))])) := ⟨_, rfl⟩
  have hw : xw D vwCl (N + 2) ad B s.heap f_4 H locs := by rw [ef_4]; exact hw
  have c_q : f_4 q = .inr (2, [.ref (ad N), .ref (ad (N + 1))]) := va_up_of ef_4
  exact x_vret hx hb hr hlocks hw (by simp only [ef_4, ef_3, ef_2, ef_1]; exact up_x1 (by omega) (by omega)) dX1_init_20

abbrev rmX0_init : Room := { frames := 2, cells := 3, slots := 210, locals := 41 }

set_option maxHeartbeats 4000000 in
set_option maxRecDepth 100000 in
theorem k_X0_init (l : Launch) (D : va_G) (ca : Nat → ClassId) (N : Nat) (ad : Nat → Nat) (B tR tK : Nat) (f : Nat → va_E) (had : ∀ k, ad k = B + k) (q : Nat) (l_q : q < N) (c_q : f q = .inr (1, [.null, .null, .int (nI 0), .int (nI 0), .int (nI 0), .int (nI 0), .int (nI 0), .int (nI 0)]))  : xMc l yX0_init wsX0_init rmX0_init [.ref (ad q)] D ca N (N + 3) ad B tR tK f (fun u => u = va_up (va_up (va_up (va_up f (N + 1) (ai (ca 0) 200 z0)) N (.inr (3, [.ref (ad (N + 1)), .int (nI 0)]))) (N + 2) (ai (ca 0) 8 z0)) q (.inr (1, [.ref (ad N), .ref (ad (N + 2)), .int (nI 0), .int (nI 0), .int ((-1)), .int ((-1)), .int (nI 0), .int (nI 0)]))) 3 210 := by
  refine x_openC (cc := cX0_init) (maxL := 1) (ret := none) (by decide) rfl (Nat.le_of_ble_eq_true rfl) ?_
  intro p e s m below meth c ls hx hb hml hown hts hr hlocks hnm hB hK hE hz hO hw hl
  have hown : s.vm.findClass RX0 = some m.cls := hown
  have hl : lv_has ls 1 [(0, .ref (ad q))] := hl
  have dd := xD_of had N
  have hs : s.heap.size + 0 ≤ B + N := by omega
  have hin_3 : ∀ w ∈ u_ws RX2 TX2 2, w ∈ wsX0_init := by decide +kernel
  have hin_1 : ∀ w ∈ u_ws RX0 TX0 8, w ∈ wsX0_init := by decide +kernel
  have hf_12 := hts (.fieldLink RX0 12 "FixityRows$KeptFile" "octets" "LFixityRows$Octets;") (by decide +kernel)
  have hf_18 := hts (.fieldLink RX0 18 "FixityRows$KeptFile" "longWords" "[I") (by decide +kernel)
  have hf_22 := hts (.fieldLink RX0 22 "FixityRows$KeptFile" "fittedDay" "I") (by decide +kernel)
  have hf_26 := hts (.fieldLink RX0 26 "FixityRows$KeptFile" "nextDay" "I") (by decide +kernel)
  have b_q := c_q
  refine lv_aload_n hx hb dX0_init_0 rfl (lv_at hl 0 rfl) ?_
  refine W.objInit hx hb hown (hts (.methodLink RX0 3 objectInit) (by decide +kernel)) (hts (.instanceMethod objectInit) (by decide +kernel)) (hts _ (List.mem_of_getElem? (i := 3) rfl)) rfl (by rw [hml]; exact hl.1) rfl dX0_init_1 (Nat.le_of_ble_eq_true rfl) (Nat.le_of_ble_eq_true rfl) ?_
  refine W.eq (g2 := F0 m 4 ls []) rfl ?_
  refine lv_aload_n hx hb dX0_init_4 rfl (lv_at hl 0 rfl) ?_
  refine x_new (ci := 3) (fs := [.null, .int (nI 0)]) (C := RX2) (T := TX2) (n := 2) hx hb hts hin_3 tyX2 tyX2_ok hown (hts (.classLink RX0 9 RX2) (by decide +kernel)) (hts (.instantiable RX2 2) (by decide +kernel)) (hts (.initialized RX2) (by decide +kernel)) hK had hB hs hw rfl (by decide +kernel) (Nat.le_of_ble_eq_true rfl) (Nat.le_of_ble_eq_true rfl) dX0_init_5 (fun H hw => ?_)
  obtain ⟨f_1, ef_1⟩ : ∃ z, z = va_up f N (.inr (3, [.null, .int (nI 0)])) := ⟨_, rfl⟩
  have dd := xD_of had (N + 1)
  have hs : s.heap.size + 1 ≤ B + (N + 1) := by omega
  have hw : xw D vwCl (N + 1) ad B s.heap f_1 H [] := by rw [ef_1]; exact hw
  have c_N : f_1 N = .inr (3, [.null, .int (nI 0)]) := va_up_of ef_1
  refine lv_dup hx hb dX0_init_8 rfl ?_
  refine x_IN (q := N) (As := []) (rest := [.ref (ad N), .ref (ad q)]) ⟨hx, hb, hml, hown, hts⟩ (k_X2_init l D ca (N + 1) ad B tR tK f_1 had N (by omega) c_N ) ⟨va_cnB 0 hts gX0_init_X2_init_n11 rfl rfl rfl (hE.2.1 (RX0, 11, yX2_init) (by decide)) (hts (.initialized RX2) (by decide +kernel)) (by decide +kernel) ⟨Nat.le_of_ble_eq_true rfl, Nat.le_of_ble_eq_true rfl⟩, rfl, hts (.instanceMethod yX2_init) (by decide +kernel)⟩ hK hE hO hB hs hw rfl rfl hl.1 (Nat.le_of_ble_eq_true rfl) ⟨(Nat.le_of_ble_eq_true rfl), (Nat.le_of_ble_eq_true rfl)⟩ dX0_init_9 (fun f_2 H locs hp hw => ?_)
  have dd := xD_of had (N + 2)
  have hs : s.heap.size + 2 ≤ B + (N + 2) := by omega
  have ef_2 : f_2 = va_up (va_up f_1 (N + 1) (ai (ca 0) 200 z0)) N (.inr (3, [.ref (ad (N + 1)), .int (nI 0)])) := hp
  have hw : xw D vwCl (N + 2) ad B s.heap f_2 H locs := hw
  have c_N_1 : f_2 (N + 1) = ai (ca 0) 200 z0 := by rw [ef_2, va_up_ne _ _ (by omega), va_up_self]
  have c_N : f_2 N = .inr (3, [.ref (ad (N + 1)), .int (nI 0)]) := by rw [ef_2, va_up_self]
  have c_q : f_2 q = .inr (1, [.null, .null, .int (nI 0), .int (nI 0), .int (nI 0), .int (nI 0), .int (nI 0), .int (nI 0)]) := by rw [ef_2, va_up_ne _ _ (by omega), va_up_ne _ _ (by omega), ef_1, va_up_ne _ _ (by omega)]; exact c_q
  refine x_putF (ci := 1) (C := RX0) (T := TX0) (n := 8) (ref := RX0) (fs' := [.ref (ad N), .null, .int (nI 0), .int (nI 0), .int (nI 0), .int (nI 0), .int (nI 0), .int (nI 0)]) hx hb hts hin_1 tyX0 tyX0_ok nmX0 hown hK dd hw q (by omega) c_q rfl 0 (by decide) hf_12 (fun _ h => h) rfl hnm rfl rfl rfl (Nat.le_of_ble_eq_true rfl) rfl dX0_init_12 (fun H locs hw => ?_)
  obtain ⟨f_3, ef_3⟩ : ∃ z, z = va_up f_2 q (.inr (1, [.ref (ad N), .null, .int (nI 0), .int (nI 0), .int (nI 0), .int (nI 0), .int (nI 0), .int (nI 0)])) := ⟨_, rfl⟩
  have hw : xw D vwCl (N + 2) ad B s.heap f_3 H locs := by rw [ef_3]; exact hw
  have c_q : f_3 q = .inr (1, [.ref (ad N), .null, .int (nI 0), .int (nI 0), .int (nI 0), .int (nI 0), .int (nI 0), .int (nI 0)]) := va_up_of ef_3
  refine lv_aload_n hx hb dX0_init_15 rfl (lv_at hl 0 rfl) ?_
  refine lv_bipush (v := nI 8) hx hb dX0_init_16 (by decide) ?_
  refine x_newa (atype := .int) (ty := .int) (cT := ca 0) (N' := 8) (z := (8, .inl z0)) hx hb (hts (.arrayClass .int) (by decide +kernel)) rfl hK had hB hs hw 0 rfl (fun _ _ h => h) (fun cA => z0_i cA _) (by decide) (nI_clamp (by decide)) (by decide) (Nat.le_of_ble_eq_true rfl) (Nat.le_of_ble_eq_true rfl) dX0_init_18 (fun H hw => ?_)
  obtain ⟨f_4, ef_4⟩ : ∃ z, z = va_up f_3 (N + 2) (ai (ca 0) 8 z0) := ⟨_, rfl⟩
  have dd := xD_of had (N + 3)
  have hs : s.heap.size + 3 ≤ B + (N + 3) := by omega
  have hw : xw D vwCl (N + 3) ad B s.heap f_4 H locs := by rw [ef_4]; exact hw
  have c_N_2 : f_4 (N + 2) = ai (ca 0) 8 z0 := va_up_of ef_4
  have c_q : f_4 q = .inr (1, [.ref (ad N), .null, .int (nI 0), .int (nI 0), .int (nI 0), .int (nI 0), .int (nI 0), .int (nI 0)]) := by rw [ef_4, va_up_ne _ _ (by omega)]; exact c_q
  refine x_putF (ci := 1) (C := RX0) (T := TX0) (n := 8) (ref := RX0) (fs' := [.ref (ad N), .ref (ad (N + 2)), .int (nI 0), .int (nI 0), .int (nI 0), .int (nI 0), .int (nI 0), .int (nI 0)]) hx hb hts hin_1 tyX0 tyX0_ok nmX0 hown hK dd hw q (by omega) c_q rfl 1 (by decide) hf_18 (fun _ h => h) rfl hnm rfl rfl rfl (Nat.le_of_ble_eq_true rfl) rfl dX0_init_20 (fun H locs hw => ?_)
  obtain ⟨f_5, ef_5⟩ : ∃ z, z = va_up f_4 q (.inr (1, [.ref (ad N), .ref (ad (N + 2)), .int (nI 0), .int (nI 0), .int (nI 0), .int (nI 0), .int (nI 0), .int (nI 0)])) := ⟨_, rfl⟩
  have hw : xw D vwCl (N + 3) ad B s.heap f_5 H locs := by rw [ef_5]; exact hw
  have c_q : f_5 q = .inr (1, [.ref (ad N), .ref (ad (N + 2)), .int (nI 0), .int (nI 0), .int (nI 0), .int (nI 0), .int (nI 0), .int (nI 0)]) := va_up_of ef_5
  refine lv_aload_n hx hb dX0_init_23 rfl (lv_at hl 0 rfl) ?_
  refine lv_iconst (v := (-1)) hx hb dX0_init_24 (by decide) ?_
  refine x_put (ci := 1) (C := RX0) (T := TX0) (n := 8) (ref := RX0) (fs' := [.ref (ad N), .ref (ad (N + 2)), .int (nI 0), .int (nI 0), .int ((-1)), .int (nI 0), .int (nI 0), .int (nI 0)]) hx hb hts hin_1 tyX0 tyX0_ok nmX0 hown hK dd hw q (by omega) c_q rfl 4 (by decide) hf_22 (fun _ h => h) rfl rfl rfl (Nat.le_of_ble_eq_true rfl) rfl dX0_init_25 (fun H locs hw => ?_)
  obtain ⟨f_6, ef_6⟩ : ∃ z, z = va_up f_5 q (.inr (1, [.ref (ad N), .ref (ad (N + 2)), .int (nI 0), .int (nI 0), .int ((-1)), .int (nI 0), .int (nI 0), .int (nI 0)])) := ⟨_, rfl⟩
  have hw : xw D vwCl (N + 3) ad B s.heap f_6 H locs := by rw [ef_6]; exact hw
  have c_q : f_6 q = .inr (1, [.ref (ad N), .ref (ad (N + 2)), .int (nI 0), .int (nI 0), .int ((-1)), .int (nI 0), .int (nI 0), .int (nI 0)]) := va_up_of ef_6
  refine lv_aload_n hx hb dX0_init_28 rfl (lv_at hl 0 rfl) ?_
  refine lv_iconst (v := (-1)) hx hb dX0_init_29 (by decide) ?_
  refine x_put (ci := 1) (C := RX0) (T := TX0) (n := 8) (ref := RX0) (fs' := [.ref (ad N), .ref (ad (N + 2)), .int (nI 0), .int (nI 0), .int ((-1)), .int ((-1)), .int (nI 0), .int (nI 0)]) hx hb hts hin_1 tyX0 tyX0_ok nmX0 hown hK dd hw q (by omega) c_q rfl 5 (by decide) hf_26 (fun _ h => h) rfl rfl rfl (Nat.le_of_ble_eq_true rfl) rfl dX0_init_30 (fun H locs hw => ?_)
  obtain ⟨f_7, ef_7⟩ : ∃ z, z = va_up f_6 q (.inr (1, [.ref (ad N), .ref (ad (N + 2)), .int (nI 0), .int (nI 0), .int ((-1)), .int ((-1)), .int (nI 0), .int (nI 0)])) := ⟨_, rfl⟩
  have hw : xw D vwCl (N + 3) ad B s.heap f_7 H locs := by rw [ef_7]; exact hw
  have c_q : f_7 q = .inr (1, [.ref (ad N), .ref (ad (N + 2)), .int (nI 0), .int (nI 0), .int ((-1)), .int ((-1)), .int (nI 0), .int (nI 0)]) := va_up_of ef_7
  exact x_vret hx hb hr hlocks hw (by simp only [ef_7, ef_6, ef_5, ef_4, ef_3, ef_2, ef_1]; exact up_x0 (by omega) (by omega) (by omega)) dX0_init_33

abbrev rmX4_init : Room := { frames := 1, cells := 1, slots := 256, locals := 23 }

set_option maxHeartbeats 4000000 in
set_option maxRecDepth 100000 in
theorem k_X4_init (l : Launch) (D : va_G) (ca : Nat → ClassId) (N : Nat) (ad : Nat → Nat) (B tR tK : Nat) (f : Nat → va_E) (had : ∀ k, ad k = B + k) (q : Nat) (l_q : q < N) (c_q : f q = .inr (5, [.null]))  : xMc l yX4_init wsX4_init rmX4_init [.ref (ad q)] D ca N (N + 1) ad B tR tK f (fun u => u = va_up (va_up f N (ai (ca 0) 256 (ctb 256))) q (.inr (5, [.ref (ad N)]))) 1 256 := by
  refine x_openC (cc := cX4_init) (maxL := 2) (ret := none) (by decide) rfl (Nat.le_of_ble_eq_true rfl) ?_
  intro p e s m below meth c ls hx hb hml hown hts hr hlocks hnm hB hK hE hz hO hw hl
  have hown : s.vm.findClass RX4 = some m.cls := hown
  have hl : lv_has ls 2 [(0, .ref (ad q))] := hl
  have dd := xD_of had N
  have hs : s.heap.size + 0 ≤ B + N := by omega
  have hin_5 : ∀ w ∈ u_ws RX4 TX4 1, w ∈ wsX4_init := by decide +kernel
  have hf_9 := hts (.fieldLink RX4 9 "FixityRows$ShortDigest" "table" "[I") (by decide +kernel)
  have b_q := c_q
  have P_15 : ∀ (n_15 : Nat) (i : Nat) (H : Heap) (locs : List Loc) (ls : Array Slot), 256 + 1 ≤ i + n_15 → (i ≤ 256) → xw D vwCl (N + 1) ad B s.heap (va_up (va_up f N (ai (ca 0) 256 (ctb i))) q (.inr (5, [.ref (ad N)]))) H locs → lv_has ls 2 [(0, .ref (ad q)), (1, .int (nI i))] → W p l e rmX4_init s m ([.ref (ad q)] : List Value).toArray below meth c H locs 1 256 (MQ below (xQv (fun u => u = va_up (va_up f N (ai (ca 0) 256 (ctb 256))) q (.inr (5, [.ref (ad N)]))) D (N + 1) ad B) ([.ref (ad q)] : List Value).toArray s 1 256 (xA B)) (F0 m 15 ls []) := by
    intro n_15
    induction n_15 with
    | zero =>
      intro i H locs ls hm_15 hi hw hl
      exact absurd hm_15 (by omega)
    | succ n_15 ih_15 =>
      intro i H locs ls hm_15 hi hw hl
      have c_q := b_q
      have dd := xD_of had (N + 1)
      have hs : s.heap.size + 1 ≤ B + (N + 1) := by omega
      obtain ⟨f_1, ef_1⟩ : ∃ z, z = va_up (va_up f N (ai (ca 0) 256 (ctb i))) q (.inr (5, [.ref (ad N)])) := ⟨_, rfl⟩
      have hw : xw D vwCl (N + 1) ad B s.heap f_1 H locs := by rw [ef_1]; exact hw
      have c_N : f_1 N = ai (ca 0) 256 (ctb i) := by rw [ef_1, va_up_ne _ _ (by omega), va_up_self]
      have c_q : f_1 q = .inr (5, [.ref (ad N)]) := by rw [ef_1, va_up_self]
      refine lv_iload_n hx hb dX4_init_15 rfl (lv_at hl 1 rfl) ?_
      refine lv_sipush (v := nI 256) hx hb dX4_init_16 (by decide) ?_
      refine n_icge (tgt := 38) hx hb dX4_init_19 (by decide) (by omega) (by omega) (fun c_19 => ?_) (fun c_19 => ?_)
      · exact x_vret hx hb hr hlocks hw (by have ei : i = 256 := (by omega); subst ei; simp only [ef_1]) dX4_init_38
      · refine lv_aload_n hx hb dX4_init_22 rfl (lv_at hl 0 rfl) ?_
        refine x_get (ci := 5) (C := RX4) (T := TX4) (n := 1) (ref := RX4) hx hb hts hin_5 hown hK hw q (by omega) c_q rfl 0 (by decide) hf_9 (fun _ h => h) rfl dX4_init_23 ?_
        refine lv_iload_n hx hb dX4_init_26 rfl (lv_at hl 1 rfl) ?_
        refine lv_iload_n hx hb dX4_init_27 rfl (lv_at hl 1 rfl) ?_
        refine x_Si (As := [.int (nI i)]) (rest := [.int (nI i), .ref (ad N)]) ⟨hx, hb, hml, hown, hts⟩ (k_X4_entry l D ca (N + 1) ad B tR tK f_1 dd (nI i)   ) (va_cwS 1 hts gX4_init_X4_entry rfl rfl rfl (by decide +kernel) ⟨Nat.le_of_ble_eq_true rfl, Nat.le_of_ble_eq_true rfl⟩) hK hE hB hw rfl rfl hl.1 (Nat.le_of_ble_eq_true rfl) ⟨(Nat.le_of_ble_eq_true rfl), (Nat.le_of_ble_eq_true rfl)⟩ dX4_init_28 (fun r_3 f_2 H locs hp hw => ?_)
        obtain ⟨er, eu⟩ := hp
        rw [← er]
        rw [← eu] at hw
        refine lv_topi (fun x_4 ex_4 => ?_)
        refine x_iast (j := i) hx hb hK dd hw N 0 (by omega) c_N rfl rfl (by omega) (by decide) dX4_init_31 (fun H locs hw => ?_)
        obtain ⟨f_5, ef_5⟩ : ∃ z, z = va_up f_1 N (ai (ca 0) 256 (upd (ctb i) i x_4)) := ⟨_, rfl⟩
        have hw : xw D vwCl (N + 1) ad B s.heap f_5 H locs := by rw [ef_5]; exact hw
        have c_N : f_5 N = ai (ca 0) 256 (upd (ctb i) i x_4) := va_up_of ef_5
        refine lv_iinc (v := nI (i + 1)) (lv' := [(1, .int (nI (i + 1))), (0, .ref (ad q))]) hx hb dX4_init_32 hl (k := 1) rfl (by rw [show Int32.ofInt 1 = nI 1 from rfl]; exact nI_add _ _) (by decide) rfl (fun ls hl => ?_)
        refine lv_goto (tgt := 15) hx hb dX4_init_35 (by decide) ?_
        have hw : xw D vwCl (N + 1) ad B s.heap (va_up (va_up f N (ai (ca 0) 256 (ctb (i + 1)))) q (.inr (5, [.ref (ad N)]))) H locs := by
          have ez : f_5 = va_up (va_up f N (ai (ca 0) 256 (ctb (i + 1)))) q (.inr (5, [.ref (ad N)])) := by simp only [ef_5, ex_4, ef_1]; rw [ctb_s]; exact up_x4 (by omega)
          rw [← ez]; exact hw
        exact W_cast (ih_15 (i + 1) _ _ _ (by omega) (by omega) hw (lv_sub hl [1, 0] rfl)) (by omega) (by omega)
  refine lv_aload_n hx hb dX4_init_0 rfl (lv_at hl 0 rfl) ?_
  refine W.objInit hx hb hown (hts (.methodLink RX4 1 objectInit) (by decide +kernel)) (hts (.instanceMethod objectInit) (by decide +kernel)) (hts _ (List.mem_of_getElem? (i := 3) rfl)) rfl (by rw [hml]; exact hl.1) rfl dX4_init_1 (Nat.le_of_ble_eq_true rfl) (Nat.le_of_ble_eq_true rfl) ?_
  refine W.eq (g2 := F0 m 4 ls []) rfl ?_
  refine lv_aload_n hx hb dX4_init_4 rfl (lv_at hl 0 rfl) ?_
  refine lv_sipush (v := nI 256) hx hb dX4_init_5 (by decide) ?_
  refine x_newa (atype := .int) (ty := .int) (cT := ca 0) (N' := 256) (z := (256, .inl z0)) hx hb (hts (.arrayClass .int) (by decide +kernel)) rfl hK had hB hs hw 0 rfl (fun _ _ h => h) (fun cA => z0_i cA _) (by decide) (nI_clamp (by decide)) (by decide) (Nat.le_of_ble_eq_true rfl) (Nat.le_of_ble_eq_true rfl) dX4_init_8 (fun H hw => ?_)
  obtain ⟨f_6, ef_6⟩ : ∃ z, z = va_up f N (ai (ca 0) 256 z0) := ⟨_, rfl⟩
  have dd := xD_of had (N + 1)
  have hs : s.heap.size + 1 ≤ B + (N + 1) := by omega
  have hw : xw D vwCl (N + 1) ad B s.heap f_6 H [] := by rw [ef_6]; exact hw
  have c_N : f_6 N = ai (ca 0) 256 z0 := va_up_of ef_6
  have c_q : f_6 q = .inr (5, [.null]) := by rw [ef_6, va_up_ne _ _ (by omega)]; exact c_q
  refine x_putF (ci := 5) (C := RX4) (T := TX4) (n := 1) (ref := RX4) (fs' := [.ref (ad N)]) hx hb hts hin_5 tyX4 tyX4_ok nmX4 hown hK dd hw q (by omega) c_q rfl 0 (by decide) hf_9 (fun _ h => h) rfl hnm rfl rfl rfl (Nat.le_of_ble_eq_true rfl) rfl dX4_init_10 (fun H locs hw => ?_)
  obtain ⟨f_7, ef_7⟩ : ∃ z, z = va_up f_6 q (.inr (5, [.ref (ad N)])) := ⟨_, rfl⟩
  have hw : xw D vwCl (N + 1) ad B s.heap f_7 H locs := by rw [ef_7]; exact hw
  have c_q : f_7 q = .inr (5, [.ref (ad N)]) := va_up_of ef_7
  refine lv_iconst (v := nI 0) hx hb dX4_init_13 (by decide) ?_
  refine lv_istore_n (lv' := [(1, .int (nI 0)), (0, .ref (ad q))]) hx hb dX4_init_14 rfl hl (by decide) rfl (fun ls hl => ?_)
  have hw : xw D vwCl (N + 1) ad B s.heap (va_up (va_up f N (ai (ca 0) 256 (ctb 0))) q (.inr (5, [.ref (ad N)]))) H locs := by
    rw [ctb_0]; have ez : f_7 = va_up (va_up f N (ai (ca 0) 256 z0)) q (.inr (5, [.ref (ad N)])) := by simp only [ef_7, ef_6]
    rw [← ez]; exact hw
  exact W_cast (P_15 257 0 _ _ _ (by omega) (by omega) hw (lv_sub hl [1, 0] rfl)) (by omega) (by omega)
