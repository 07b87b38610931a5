/-! ===== FixityRows' constructor ===== -/
theorem xw.arrq {D : va_G} {cl : List vw_C} {N : Nat} {ad : Nat → Nat} {B : Nat} {H0 : Heap} {f f' : Nat → va_E} {H : Heap} {locs : List Loc} {k : Nat} {c : ClassId} {n : Nat} {g g' : Nat → Option Nat} (h : xw D cl N ad B H0 f H locs) (h1 : f k = aq c n g) (e : ∀ j, j < n → g j = g' j) (h2 : f' k = aq c n g') (h3 : ∀ j, j ≠ k → f' j = f j) : xw D cl N ad B H0 f' H locs := by
  refine ⟨fun i q hq => ?_, h.2⟩
  obtain ⟨hi, rfl⟩ := wd_of hq
  have a1 := h.1 i _ (wd_get hi)
  by_cases hk : i = k
  · subst hk
    rw [h1] at a1
    rw [h2]
    have a2 : H[ad i]? = some (vp_cell c (n, .inr (.inr (.inr (.inr g))))) := a1
    show H[ad i]? = some (vp_cell c (n, .inr (.inr (.inr (.inr g')))))
    rw [a2, vp_cell_q, vp_cell_q, arrV_ext (fun j hj => by rw [e j hj])]
  · rw [h3 i hk]
    exact a1
def x5K (ca : Nat → ClassId) (ad : Nat → Nat) : Nat → va_E := fun y => if (y - 10) % 4 = 0 then .inr (1, [.ref (ad (y + 1)), .ref (ad (y + 3)), .int (nI 0), .int (nI 0), .int (-1), .int (-1), .int (nI 0), .int (nI 0)]) else if (y - 10) % 4 = 1 then .inr (3, [.ref (ad (y + 1)), .int (nI 0)]) else if (y - 10) % 4 = 2 then ai (ca 0) 200 z0 else ai (ca 0) 8 z0
def x5F (ca : Nat → ClassId) (ad : Nat → Nat) (cap i : Nat) : Nat → va_E := fun y => if y = 0 then .inr (6, [.int (nI cap), .ref (ad 1), .ref (ad 4), .ref (ad 6), .ref (ad 8), .int (nI 0), .ref (ad 9), .int (nI 0), .null, .null, .null, .int (nI 0), .int (nI 0)]) else if y = 1 then .inr (2, [.ref (ad 2), .ref (ad 3)]) else if y = 2 then ai (ca 0) 8 z0 else if y = 3 then ai (ca 0) 64 z0 else if y = 4 then .inr (5, [.ref (ad 5)]) else if y = 5 then ai (ca 0) 256 (ctb 256) else if y = 6 then .inr (3, [.ref (ad 7), .int (nI 0)]) else if y = 7 then ai (ca 0) 200 z0 else if y = 8 then ai (ca 0) 8 z0 else if y = 9 then aq (ca 3) 20 (fun j => if j < i then some (ad (10 + 4 * j)) else none) else x5K ca ad y
theorem x5F_hi (ca : Nat → ClassId) (ad : Nat → Nat) (cap i : Nat) {y : Nat} (h : 10 ≤ y) : x5F ca ad cap i y = x5K ca ad y := by
  unfold x5F
  rw [if_neg (by omega), if_neg (by omega), if_neg (by omega), if_neg (by omega), if_neg (by omega), if_neg (by omega), if_neg (by omega), if_neg (by omega), if_neg (by omega), if_neg (by omega)]
theorem x5F_s (ca : Nat → ClassId) (ad : Nat → Nat) (cap i i' : Nat) {y : Nat} (h : y ≠ 9) : x5F ca ad cap i y = x5F ca ad cap i' y := by
  by_cases h1 : 10 ≤ y
  · rw [x5F_hi _ _ _ _ h1, x5F_hi _ _ _ _ h1]
  · have h2 : y = 0 ∨ y = 1 ∨ y = 2 ∨ y = 3 ∨ y = 4 ∨ y = 5 ∨ y = 6 ∨ y = 7 ∨ y = 8 := by omega
    rcases h2 with rfl | rfl | rfl | rfl | rfl | rfl | rfl | rfl | rfl <;> rfl
theorem x5K_0 (ca : Nat → ClassId) (ad : Nat → Nat) (i : Nat) : x5K ca ad (10 + 4 * i) = .inr (1, [.ref (ad (11 + 4 * i)), .ref (ad (13 + 4 * i)), .int (nI 0), .int (nI 0), .int (-1), .int (-1), .int (nI 0), .int (nI 0)]) := by
  unfold x5K
  rw [if_pos (by omega), show 10 + 4 * i + 1 = 11 + 4 * i by omega, show 10 + 4 * i + 3 = 13 + 4 * i by omega]
theorem x5K_1 (ca : Nat → ClassId) (ad : Nat → Nat) (i : Nat) : x5K ca ad (11 + 4 * i) = .inr (3, [.ref (ad (12 + 4 * i)), .int (nI 0)]) := by
  unfold x5K
  rw [if_neg (by omega), if_pos (by omega), show 11 + 4 * i + 1 = 12 + 4 * i by omega]
theorem x5K_2 (ca : Nat → ClassId) (ad : Nat → Nat) (i : Nat) : x5K ca ad (12 + 4 * i) = ai (ca 0) 200 z0 := by
  unfold x5K
  rw [if_neg (by omega), if_neg (by omega), if_pos (by omega)]
theorem x5K_3 (ca : Nat → ClassId) (ad : Nat → Nat) (i : Nat) : x5K ca ad (13 + 4 * i) = ai (ca 0) 8 z0 := by
  unfold x5K
  rw [if_neg (by omega), if_neg (by omega), if_neg (by omega)]
/-- the state at the start -/
def x5n (cap : Nat) : Nat → Nat := fun k => if k = 0 then cap else 0
def x5g : Nat → Nat → Int32 := fun k => if k = 9 ∨ k = 10 ∨ k = 13 then (fun _ => -1) else z0
theorem x5n_hi (cap : Nat) {k : Nat} (h : 10 ≤ k) : x5n cap k = 0 := if_neg (by omega)
theorem x5g_hi {k : Nat} (h : 14 ≤ k) : x5g k = z0 := if_neg (by omega)

abbrev rmX5_init : Room := { frames := 3, cells := 301, slots := 7644, locals := 61 }

theorem x5_arr (ad : Nat → Nat) (i : Nat) : (fun j => if j < i + 1 then some (ad (10 + 4 * j)) else none) = va_up (fun j => if j < i then some (ad (10 + 4 * j)) else none) i (some (ad (10 + 4 * i))) := by
  funext j
  simp only [va_up]
  by_cases h : j = i
  · simp [h]
  · by_cases h1 : j < i
    · simp [h, h1, Nat.lt_succ_of_lt h1]
    · have : ¬ j < i + 1 := by omega
      simp [h, h1, this]

set_option maxHeartbeats 4000000 in
set_option maxRecDepth 100000 in
theorem k_X5_init (l : Launch) (D : va_G) (ca : Nat → ClassId) (ad : Nat → Nat) (B tR tK : Nat) (f : Nat → va_E) (had : ∀ k, ad k = B + k) (x : Int32) (cap : Nat) (c_0 : f 0 = .inr (6, [.int (nI 0), .null, .null, .null, .null, .int (nI 0), .null, .int (nI 0), .null, .null, .null, .int (nI 0), .int (nI 0)])) (hc : (if nI 1 < (if x < nI 20 then x else nI 20) then (if x < nI 20 then x else nI 20) else nI 1) = nI cap) : xMc l yX5_init wsX5_init rmX5_init [.ref (ad 0), .int x] D ca 1 302 ad B tR tK f (fun u => ∃ (z : Nat → Nat → Int32) (zn : Nat) (tb : Nat → Int32), RepX ca ad (x5n cap) x5g z zn tb u) 301 7644 := by
  refine x_openC (cc := cX5_init) (maxL := 3) (ret := none) (by decide) rfl (Nat.le_of_ble_eq_true rfl) ?_
  intro p e s m below meth c ls hx hb hml hown hts hr hlocks hnm hB hK hE hz hO hw hl
  have hown : s.vm.findClass RX5 = some m.cls := hown
  have hl : lv_has ls 3 [(0, .ref (ad 0)), (1, .int x)] := hl
  have dd := xD_of had 1
  have hs : s.heap.size + 0 ≤ B + 1 := by omega
  have hin_4 : ∀ w ∈ u_ws RX3 TX3 7, w ∈ wsX5_init := by decide +kernel
  have hin_6 : ∀ w ∈ u_ws RX5 TX5 13, w ∈ wsX5_init := by decide +kernel
  have hf_57 := hts (.fieldLink RX5 57 "FixityRows" "rows" "LFixityRows$RowChain;") (by decide +kernel)
  have hf_61 := hts (.fieldLink RX5 61 "FixityRows" "checkedFiles" "[I") (by decide +kernel)
  have hf_64 := hts (.fieldLink RX5 64 "FixityRows" "checkedFits" "[Z") (by decide +kernel)
  have hf_68 := hts (.fieldLink RX5 68 "FixityRows" "workedDay" "I") (by decide +kernel)
  have hf_49 := hts (.fieldLink RX5 49 "FixityRows" "files" "[LFixityRows$KeptFile;") (by decide +kernel)
  have hin_1 : ∀ w ∈ u_ws RX0 TX0 8, w ∈ wsX5_init := by decide +kernel
  have hf_18 := hts (.fieldLink RX5 18 "FixityRows" "capacity" "I") (by decide +kernel)
  have hin_2 : ∀ w ∈ u_ws RX1 TX1 2, w ∈ wsX5_init := by decide +kernel
  have hf_25 := hts (.fieldLink RX5 25 "FixityRows" "longDigest" "LFixityRows$LongDigest;") (by decide +kernel)
  have hin_5 : ∀ w ∈ u_ws RX4 TX4 1, w ∈ wsX5_init := by decide +kernel
  have hf_32 := hts (.fieldLink RX5 32 "FixityRows" "shortDigest" "LFixityRows$ShortDigest;") (by decide +kernel)
  have hin_3 : ∀ w ∈ u_ws RX2 TX2 2, w ∈ wsX5_init := by decide +kernel
  have hf_39 := hts (.fieldLink RX5 39 "FixityRows" "collected" "LFixityRows$Octets;") (by decide +kernel)
  have hf_43 := hts (.fieldLink RX5 43 "FixityRows" "latestDigest" "[I") (by decide +kernel)
  have b_0 := c_0
  have P_70 : ∀ (n_70 : Nat) (i : Nat) (H : Heap) (locs : List Loc) (ls : Array Slot), 20 + 1 ≤ i + n_70 → (i ≤ 20) → xw D vwCl (10 + 4 * i) ad B s.heap (x5F ca ad cap i) H locs → lv_has ls 3 [(0, .ref (ad 0)), (1, .int x), (2, .int (nI i))] → W p l e rmX5_init s m ([.ref (ad 0), .int x] : List Value).toArray below meth c H locs (9 + 4 * i) (561 + 218 * i) (MQ below (xQv (fun u => ∃ (z : Nat → Nat → Int32) (zn : Nat) (tb : Nat → Int32), RepX ca ad (x5n cap) x5g z zn tb u) D 302 ad B) ([.ref (ad 0), .int x] : List Value).toArray s 301 7644 (xA B)) (F0 m 70 ls []) := by
    intro n_70
    induction n_70 with
    | zero =>
      intro i H locs ls hm_70 hi hw hl
      exact absurd hm_70 (by omega)
    | succ n_70 ih_70 =>
      intro i H locs ls hm_70 hi hw hl
      have c_0 := b_0
      have dd := xD_of had (10 + 4 * i)
      have hs : s.heap.size + (9 + 4 * i) ≤ B + (10 + 4 * i) := by omega
      obtain ⟨f_1, ef_1⟩ : ∃ z, z = x5F ca ad cap i := ⟨_, rfl⟩
      have hw : xw D vwCl (10 + 4 * i) ad B s.heap f_1 H locs := by rw [ef_1]; exact hw
      have c_0 : f_1 0 = .inr (6, [.int (nI cap), .ref (ad 1), .ref (ad 4), .ref (ad 6), .ref (ad 8), .int (nI 0), .ref (ad 9), .int (nI 0), .null, .null, .null, .int (nI 0), .int (nI 0)]) := by rw [ef_1]; exact rfl
      have c_1 : f_1 1 = .inr (2, [.ref (ad 2), .ref (ad 3)]) := by rw [ef_1]; exact rfl
      have c_2 : f_1 2 = ai (ca 0) 8 z0 := by rw [ef_1]; exact rfl
      have c_3 : f_1 3 = ai (ca 0) 64 z0 := by rw [ef_1]; exact rfl
      have c_4 : f_1 4 = .inr (5, [.ref (ad 5)]) := by rw [ef_1]; exact rfl
      have c_5 : f_1 5 = ai (ca 0) 256 (ctb 256) := by rw [ef_1]; exact rfl
      have c_6 : f_1 6 = .inr (3, [.ref (ad 7), .int (nI 0)]) := by rw [ef_1]; exact rfl
      have c_7 : f_1 7 = ai (ca 0) 200 z0 := by rw [ef_1]; exact rfl
      have c_8 : f_1 8 = ai (ca 0) 8 z0 := by rw [ef_1]; exact rfl
      have c_9 : f_1 9 = aq (ca 3) 20 (fun j => if j < i then some (ad (10 + 4 * j)) else none) := by rw [ef_1]; exact rfl
      refine lv_iload_n hx hb dX5_init_70 rfl (lv_at hl 2 rfl) ?_
      refine lv_bipush (v := nI 20) hx hb dX5_init_71 (by decide) ?_
      refine n_icge (tgt := 95) hx hb dX5_init_73 (by decide) (by omega) (by omega) (fun c_73 => ?_) (fun c_73 => ?_)
      · obtain rfl : i = 20 := by omega
        obtain ⟨f_2, ef_2⟩ : ∃ z, z = va_up (x5F ca ad cap 20) 9 (aq (ca 3) 20 (fun j => some (ad (10 + 4 * j)))) := ⟨_, rfl⟩
        have hw : xw D vwCl 90 ad B s.heap f_2 H locs := xw.arrq (k := 9) hw c_9 (fun j hj => if_pos hj) (by rw [ef_2]; exact va_up_self _ _ _) (fun j hj => by rw [ef_2, va_up_ne _ _ hj, ef_1])
        have dd := xD_of had 90
        have hs : s.heap.size + (9 + 4 * 20) ≤ B + 90 := by omega
        have c_0 : f_2 0 = .inr (6, [.int (nI cap), .ref (ad 1), .ref (ad 4), .ref (ad 6), .ref (ad 8), .int (nI 0), .ref (ad 9), .int (nI 0), .null, .null, .null, .int (nI 0), .int (nI 0)]) := by rw [ef_2, va_up_ne _ _ (by decide)]; rfl
        have c_1 : f_2 1 = .inr (2, [.ref (ad 2), .ref (ad 3)]) := by rw [ef_2, va_up_ne _ _ (by decide)]; rfl
        have c_2 : f_2 2 = ai (ca 0) 8 z0 := by rw [ef_2, va_up_ne _ _ (by decide)]; rfl
        have c_3 : f_2 3 = ai (ca 0) 64 z0 := by rw [ef_2, va_up_ne _ _ (by decide)]; rfl
        have c_4 : f_2 4 = .inr (5, [.ref (ad 5)]) := by rw [ef_2, va_up_ne _ _ (by decide)]; rfl
        have c_5 : f_2 5 = ai (ca 0) 256 (ctb 256) := by rw [ef_2, va_up_ne _ _ (by decide)]; rfl
        have c_6 : f_2 6 = .inr (3, [.ref (ad 7), .int (nI 0)]) := by rw [ef_2, va_up_ne _ _ (by decide)]; rfl
        have c_7 : f_2 7 = ai (ca 0) 200 z0 := by rw [ef_2, va_up_ne _ _ (by decide)]; rfl
        have c_8 : f_2 8 = ai (ca 0) 8 z0 := by rw [ef_2, va_up_ne _ _ (by decide)]; rfl
        have c_9 : f_2 9 = aq (ca 3) 20 (fun j => some (ad (10 + 4 * j))) := by rw [ef_2]; exact va_up_self _ _ _
        refine lv_aload_n hx hb dX5_init_95 rfl (lv_at hl 0 rfl) ?_
        refine x_new (ci := 4) (fs := [.null, .null, .null, .null, .null, .null, .int (nI 0)]) (C := RX3) (T := TX3) (n := 7) hx hb hts hin_4 tyX3 tyX3_ok hown (hts (.classLink RX5 54 RX3) (by decide +kernel)) (hts (.instantiable RX3 7) (by decide +kernel)) (hts (.initialized RX3) (by decide +kernel)) hK had hB hs hw rfl (by decide +kernel) (Nat.le_of_ble_eq_true rfl) (Nat.le_of_ble_eq_true rfl) dX5_init_96 (fun H hw => ?_)
        obtain ⟨f_3, ef_3⟩ : ∃ z, z = va_up f_2 90 (.inr (4, [.null, .null, .null, .null, .null, .null, .int (nI 0)])) := ⟨_, rfl⟩
        have dd := xD_of had 91
        have hs : s.heap.size + 90 ≤ B + 91 := by omega
        have hw : xw D vwCl 91 ad B s.heap f_3 H locs := by rw [ef_3]; exact hw
        have c_90 : f_3 90 = .inr (4, [.null, .null, .null, .null, .null, .null, .int (nI 0)]) := va_up_of ef_3
        refine lv_dup hx hb dX5_init_99 rfl ?_
        refine x_IN (q := 90) (As := []) (rest := [.ref (ad 90), .ref (ad 0)]) ⟨hx, hb, hml, hown, hts⟩ (k_X3_init l D ca ad B tR tK f_3 had  c_90 ) ⟨va_cnB 0 hts gX5_init_X3_init_n56 rfl rfl rfl (hE.2.1 (RX5, 56, yX3_init) (by decide)) (hts (.initialized RX3) (by decide +kernel)) (by decide +kernel) ⟨Nat.le_of_ble_eq_true rfl, Nat.le_of_ble_eq_true rfl⟩, rfl, hts (.instanceMethod yX3_init) (by decide +kernel)⟩ hK hE hO hB hs hw rfl rfl hl.1 (Nat.le_of_ble_eq_true rfl) ⟨(Nat.le_of_ble_eq_true rfl), (Nat.le_of_ble_eq_true rfl)⟩ dX5_init_100 (fun f_4 H locs hp hw => ?_)
        have dd := xD_of had 300
        have hs : s.heap.size + 299 ≤ B + 300 := by omega
        have ef_4 : f_4 = x3F ca ad f_3 := hp
        have hw : xw D vwCl 300 ad B s.heap f_4 H locs := hw
        have c_0 : f_3 0 = .inr (6, [.int (nI cap), .ref (ad 1), .ref (ad 4), .ref (ad 6), .ref (ad 8), .int (nI 0), .ref (ad 9), .int (nI 0), .null, .null, .null, .int (nI 0), .int (nI 0)]) := by rw [ef_3, va_up_ne _ _ (by decide)]; exact c_0
        have c_1 : f_3 1 = .inr (2, [.ref (ad 2), .ref (ad 3)]) := by rw [ef_3, va_up_ne _ _ (by decide)]; exact c_1
        have c_2 : f_3 2 = ai (ca 0) 8 z0 := by rw [ef_3, va_up_ne _ _ (by decide)]; exact c_2
        have c_3 : f_3 3 = ai (ca 0) 64 z0 := by rw [ef_3, va_up_ne _ _ (by decide)]; exact c_3
        have c_4 : f_3 4 = .inr (5, [.ref (ad 5)]) := by rw [ef_3, va_up_ne _ _ (by decide)]; exact c_4
        have c_5 : f_3 5 = ai (ca 0) 256 (ctb 256) := by rw [ef_3, va_up_ne _ _ (by decide)]; exact c_5
        have c_6 : f_3 6 = .inr (3, [.ref (ad 7), .int (nI 0)]) := by rw [ef_3, va_up_ne _ _ (by decide)]; exact c_6
        have c_7 : f_3 7 = ai (ca 0) 200 z0 := by rw [ef_3, va_up_ne _ _ (by decide)]; exact c_7
        have c_8 : f_3 8 = ai (ca 0) 8 z0 := by rw [ef_3, va_up_ne _ _ (by decide)]; exact c_8
        have c_9 : f_3 9 = aq (ca 3) 20 (fun j => some (ad (10 + 4 * j))) := by rw [ef_3, va_up_ne _ _ (by decide)]; exact c_9
        have c_0 : f_4 0 = .inr (6, [.int (nI cap), .ref (ad 1), .ref (ad 4), .ref (ad 6), .ref (ad 8), .int (nI 0), .ref (ad 9), .int (nI 0), .null, .null, .null, .int (nI 0), .int (nI 0)]) := by rw [ef_4, x3F_lo _ _ _ (by omega)]; exact c_0
        have c_1 : f_4 1 = .inr (2, [.ref (ad 2), .ref (ad 3)]) := by rw [ef_4, x3F_lo _ _ _ (by omega)]; exact c_1
        have c_2 : f_4 2 = ai (ca 0) 8 z0 := by rw [ef_4, x3F_lo _ _ _ (by omega)]; exact c_2
        have c_3 : f_4 3 = ai (ca 0) 64 z0 := by rw [ef_4, x3F_lo _ _ _ (by omega)]; exact c_3
        have c_4 : f_4 4 = .inr (5, [.ref (ad 5)]) := by rw [ef_4, x3F_lo _ _ _ (by omega)]; exact c_4
        have c_5 : f_4 5 = ai (ca 0) 256 (ctb 256) := by rw [ef_4, x3F_lo _ _ _ (by omega)]; exact c_5
        have c_6 : f_4 6 = .inr (3, [.ref (ad 7), .int (nI 0)]) := by rw [ef_4, x3F_lo _ _ _ (by omega)]; exact c_6
        have c_7 : f_4 7 = ai (ca 0) 200 z0 := by rw [ef_4, x3F_lo _ _ _ (by omega)]; exact c_7
        have c_8 : f_4 8 = ai (ca 0) 8 z0 := by rw [ef_4, x3F_lo _ _ _ (by omega)]; exact c_8
        have c_9 : f_4 9 = aq (ca 3) 20 (fun j => some (ad (10 + 4 * j))) := by rw [ef_4, x3F_lo _ _ _ (by omega)]; exact c_9
        have c_90 : f_4 90 = .inr (4, [.ref (ad 91), .ref (ad 94), .ref (ad 96), .ref (ad 97), .ref (ad 98), .ref (ad 99), .int (nI 0)]) := by rw [ef_4]; rfl
        have c_91 : f_4 91 = .inr (2, [.ref (ad 92), .ref (ad 93)]) := by rw [ef_4]; rfl
        have c_92 : f_4 92 = ai (ca 0) 8 z0 := by rw [ef_4]; rfl
        have c_93 : f_4 93 = ai (ca 0) 64 z0 := by rw [ef_4]; rfl
        have c_94 : f_4 94 = .inr (3, [.ref (ad 95), .int (nI 0)]) := by rw [ef_4]; rfl
        have c_95 : f_4 95 = ai (ca 0) 200 z0 := by rw [ef_4]; rfl
        have c_96 : f_4 96 = ai (ca 0) 200 z0 := by rw [ef_4]; rfl
        have c_97 : f_4 97 = ai (ca 0) 200 z0 := by rw [ef_4]; rfl
        have c_98 : f_4 98 = ai (ca 0) 200 z0 := by rw [ef_4]; rfl
        have c_99 : f_4 99 = aq (ca 4) 200 (fun i => some (ad (100 + i))) := by rw [ef_4]; rfl
        refine x_putF (ci := 6) (C := RX5) (T := TX5) (n := 13) (ref := RX5) (fs' := [.int (nI cap), .ref (ad 1), .ref (ad 4), .ref (ad 6), .ref (ad 8), .int (nI 0), .ref (ad 9), .int (nI 0), .ref (ad 90), .null, .null, .int (nI 0), .int (nI 0)]) hx hb hts hin_6 tyX5 tyX5_ok nmX5 hown hK dd hw 0 (by omega) c_0 rfl 8 (by decide) hf_57 (fun _ h => h) rfl hnm rfl rfl rfl (Nat.le_of_ble_eq_true rfl) rfl dX5_init_103 (fun H locs hw => ?_)
        obtain ⟨f_5, ef_5⟩ : ∃ z, z = va_up f_4 0 (.inr (6, [.int (nI cap), .ref (ad 1), .ref (ad 4), .ref (ad 6), .ref (ad 8), .int (nI 0), .ref (ad 9), .int (nI 0), .ref (ad 90), .null, .null, .int (nI 0), .int (nI 0)])) := ⟨_, rfl⟩
        have hw : xw D vwCl 300 ad B s.heap f_5 H locs := by rw [ef_5]; exact hw
        have c_0 : f_5 0 = .inr (6, [.int (nI cap), .ref (ad 1), .ref (ad 4), .ref (ad 6), .ref (ad 8), .int (nI 0), .ref (ad 9), .int (nI 0), .ref (ad 90), .null, .null, .int (nI 0), .int (nI 0)]) := va_up_of ef_5
        refine lv_aload_n hx hb dX5_init_106 rfl (lv_at hl 0 rfl) ?_
        refine lv_bipush (v := nI 20) hx hb dX5_init_107 (by decide) ?_
        refine x_newa (atype := .int) (ty := .int) (cT := ca 0) (N' := 20) (z := (20, .inl z0)) hx hb (hts (.arrayClass .int) (by decide +kernel)) rfl hK had hB hs hw 0 rfl (fun _ _ h => h) (fun cA => z0_i cA _) (by decide) (nI_clamp (by decide)) (by decide) (Nat.le_of_ble_eq_true rfl) (Nat.le_of_ble_eq_true rfl) dX5_init_109 (fun H hw => ?_)
        obtain ⟨f_6, ef_6⟩ : ∃ z, z = va_up f_5 300 (ai (ca 0) 20 z0) := ⟨_, rfl⟩
        have dd := xD_of had 301
        have hs : s.heap.size + 300 ≤ B + 301 := by omega
        have hw : xw D vwCl 301 ad B s.heap f_6 H locs := by rw [ef_6]; exact hw
        have c_300 : f_6 300 = ai (ca 0) 20 z0 := va_up_of ef_6
        have c_0 : f_6 0 = .inr (6, [.int (nI cap), .ref (ad 1), .ref (ad 4), .ref (ad 6), .ref (ad 8), .int (nI 0), .ref (ad 9), .int (nI 0), .ref (ad 90), .null, .null, .int (nI 0), .int (nI 0)]) := by rw [ef_6, va_up_ne _ _ (by decide)]; exact c_0
        refine x_putF (ci := 6) (C := RX5) (T := TX5) (n := 13) (ref := RX5) (fs' := [.int (nI cap), .ref (ad 1), .ref (ad 4), .ref (ad 6), .ref (ad 8), .int (nI 0), .ref (ad 9), .int (nI 0), .ref (ad 90), .ref (ad 300), .null, .int (nI 0), .int (nI 0)]) hx hb hts hin_6 tyX5 tyX5_ok nmX5 hown hK dd hw 0 (by omega) c_0 rfl 9 (by decide) hf_61 (fun _ h => h) rfl hnm rfl rfl rfl (Nat.le_of_ble_eq_true rfl) rfl dX5_init_111 (fun H locs hw => ?_)
        obtain ⟨f_7, ef_7⟩ : ∃ z, z = va_up f_6 0 (.inr (6, [.int (nI cap), .ref (ad 1), .ref (ad 4), .ref (ad 6), .ref (ad 8), .int (nI 0), .ref (ad 9), .int (nI 0), .ref (ad 90), .ref (ad 300), .null, .int (nI 0), .int (nI 0)])) := ⟨_, rfl⟩
        have hw : xw D vwCl 301 ad B s.heap f_7 H locs := by rw [ef_7]; exact hw
        have c_0 : f_7 0 = .inr (6, [.int (nI cap), .ref (ad 1), .ref (ad 4), .ref (ad 6), .ref (ad 8), .int (nI 0), .ref (ad 9), .int (nI 0), .ref (ad 90), .ref (ad 300), .null, .int (nI 0), .int (nI 0)]) := va_up_of ef_7
        refine lv_aload_n hx hb dX5_init_114 rfl (lv_at hl 0 rfl) ?_
        refine lv_bipush (v := nI 20) hx hb dX5_init_115 (by decide) ?_
        refine x_newa (atype := .boolean) (ty := .boolean) (cT := ca 2) (N' := 20) (z := (20, .inl z0)) hx hb (hts (.arrayClass .boolean) (by decide +kernel)) rfl hK had hB hs hw 2 rfl (fun _ _ h => h) (fun cA => z0_z cA _) (by decide) (nI_clamp (by decide)) (by decide) (Nat.le_of_ble_eq_true rfl) (Nat.le_of_ble_eq_true rfl) dX5_init_117 (fun H hw => ?_)
        obtain ⟨f_8, ef_8⟩ : ∃ z, z = va_up f_7 301 (ai (ca 2) 20 z0) := ⟨_, rfl⟩
        have dd := xD_of had 302
        have hs : s.heap.size + 301 ≤ B + 302 := by omega
        have hw : xw D vwCl 302 ad B s.heap f_8 H locs := by rw [ef_8]; exact hw
        have c_301 : f_8 301 = ai (ca 2) 20 z0 := va_up_of ef_8
        have c_0 : f_8 0 = .inr (6, [.int (nI cap), .ref (ad 1), .ref (ad 4), .ref (ad 6), .ref (ad 8), .int (nI 0), .ref (ad 9), .int (nI 0), .ref (ad 90), .ref (ad 300), .null, .int (nI 0), .int (nI 0)]) := by rw [ef_8, va_up_ne _ _ (by decide)]; exact c_0
        refine x_putF (ci := 6) (C := RX5) (T := TX5) (n := 13) (ref := RX5) (fs' := [.int (nI cap), .ref (ad 1), .ref (ad 4), .ref (ad 6), .ref (ad 8), .int (nI 0), .ref (ad 9), .int (nI 0), .ref (ad 90), .ref (ad 300), .ref (ad 301), .int (nI 0), .int (nI 0)]) hx hb hts hin_6 tyX5 tyX5_ok nmX5 hown hK dd hw 0 (by omega) c_0 rfl 10 (by decide) hf_64 (fun _ h => h) rfl hnm rfl rfl rfl (Nat.le_of_ble_eq_true rfl) rfl dX5_init_119 (fun H locs hw => ?_)
        obtain ⟨f_9, ef_9⟩ : ∃ z, z = va_up f_8 0 (.inr (6, [.int (nI cap), .ref (ad 1), .ref (ad 4), .ref (ad 6), .ref (ad 8), .int (nI 0), .ref (ad 9), .int (nI 0), .ref (ad 90), .ref (ad 300), .ref (ad 301), .int (nI 0), .int (nI 0)])) := ⟨_, rfl⟩
        have hw : xw D vwCl 302 ad B s.heap f_9 H locs := by rw [ef_9]; exact hw
        have c_0 : f_9 0 = .inr (6, [.int (nI cap), .ref (ad 1), .ref (ad 4), .ref (ad 6), .ref (ad 8), .int (nI 0), .ref (ad 9), .int (nI 0), .ref (ad 90), .ref (ad 300), .ref (ad 301), .int (nI 0), .int (nI 0)]) := va_up_of ef_9
        refine lv_aload_n hx hb dX5_init_122 rfl (lv_at hl 0 rfl) ?_
        refine lv_iconst (v := (-1)) hx hb dX5_init_123 (by decide) ?_
        refine x_put (ci := 6) (C := RX5) (T := TX5) (n := 13) (ref := RX5) (fs' := [.int (nI cap), .ref (ad 1), .ref (ad 4), .ref (ad 6), .ref (ad 8), .int (nI 0), .ref (ad 9), .int (nI 0), .ref (ad 90), .ref (ad 300), .ref (ad 301), .int (nI 0), .int ((-1))]) hx hb hts hin_6 tyX5 tyX5_ok nmX5 hown hK dd hw 0 (by omega) c_0 rfl 12 (by decide) hf_68 (fun _ h => h) rfl rfl rfl (Nat.le_of_ble_eq_true rfl) rfl dX5_init_124 (fun H locs hw => ?_)
        obtain ⟨f_10, ef_10⟩ : ∃ z, z = va_up f_9 0 (.inr (6, [.int (nI cap), .ref (ad 1), .ref (ad 4), .ref (ad 6), .ref (ad 8), .int (nI 0), .ref (ad 9), .int (nI 0), .ref (ad 90), .ref (ad 300), .ref (ad 301), .int (nI 0), .int ((-1))])) := ⟨_, rfl⟩
        have hw : xw D vwCl 302 ad B s.heap f_10 H locs := by rw [ef_10]; exact hw
        have c_0 : f_10 0 = .inr (6, [.int (nI cap), .ref (ad 1), .ref (ad 4), .ref (ad 6), .ref (ad 8), .int (nI 0), .ref (ad 9), .int (nI 0), .ref (ad 90), .ref (ad 300), .ref (ad 301), .int (nI 0), .int ((-1))]) := va_up_of ef_10
        have c_1 : f_10 1 = .inr (2, [.ref (ad 2), .ref (ad 3)]) := by rw [ef_10, va_up_ne _ _ (by decide), ef_9, va_up_ne _ _ (by decide), ef_8, va_up_ne _ _ (by decide), ef_7, va_up_ne _ _ (by decide), ef_6, va_up_ne _ _ (by decide), ef_5, va_up_ne _ _ (by decide)]; exact c_1
        have c_2 : f_10 2 = ai (ca 0) 8 z0 := by rw [ef_10, va_up_ne _ _ (by decide), ef_9, va_up_ne _ _ (by decide), ef_8, va_up_ne _ _ (by decide), ef_7, va_up_ne _ _ (by decide), ef_6, va_up_ne _ _ (by decide), ef_5, va_up_ne _ _ (by decide)]; exact c_2
        have c_3 : f_10 3 = ai (ca 0) 64 z0 := by rw [ef_10, va_up_ne _ _ (by decide), ef_9, va_up_ne _ _ (by decide), ef_8, va_up_ne _ _ (by decide), ef_7, va_up_ne _ _ (by decide), ef_6, va_up_ne _ _ (by decide), ef_5, va_up_ne _ _ (by decide)]; exact c_3
        have c_4 : f_10 4 = .inr (5, [.ref (ad 5)]) := by rw [ef_10, va_up_ne _ _ (by decide), ef_9, va_up_ne _ _ (by decide), ef_8, va_up_ne _ _ (by decide), ef_7, va_up_ne _ _ (by decide), ef_6, va_up_ne _ _ (by decide), ef_5, va_up_ne _ _ (by decide)]; exact c_4
        have c_5 : f_10 5 = ai (ca 0) 256 (ctb 256) := by rw [ef_10, va_up_ne _ _ (by decide), ef_9, va_up_ne _ _ (by decide), ef_8, va_up_ne _ _ (by decide), ef_7, va_up_ne _ _ (by decide), ef_6, va_up_ne _ _ (by decide), ef_5, va_up_ne _ _ (by decide)]; exact c_5
        have c_6 : f_10 6 = .inr (3, [.ref (ad 7), .int (nI 0)]) := by rw [ef_10, va_up_ne _ _ (by decide), ef_9, va_up_ne _ _ (by decide), ef_8, va_up_ne _ _ (by decide), ef_7, va_up_ne _ _ (by decide), ef_6, va_up_ne _ _ (by decide), ef_5, va_up_ne _ _ (by decide)]; exact c_6
        have c_7 : f_10 7 = ai (ca 0) 200 z0 := by rw [ef_10, va_up_ne _ _ (by decide), ef_9, va_up_ne _ _ (by decide), ef_8, va_up_ne _ _ (by decide), ef_7, va_up_ne _ _ (by decide), ef_6, va_up_ne _ _ (by decide), ef_5, va_up_ne _ _ (by decide)]; exact c_7
        have c_8 : f_10 8 = ai (ca 0) 8 z0 := by rw [ef_10, va_up_ne _ _ (by decide), ef_9, va_up_ne _ _ (by decide), ef_8, va_up_ne _ _ (by decide), ef_7, va_up_ne _ _ (by decide), ef_6, va_up_ne _ _ (by decide), ef_5, va_up_ne _ _ (by decide)]; exact c_8
        have c_9 : f_10 9 = aq (ca 3) 20 (fun j => some (ad (10 + 4 * j))) := by rw [ef_10, va_up_ne _ _ (by decide), ef_9, va_up_ne _ _ (by decide), ef_8, va_up_ne _ _ (by decide), ef_7, va_up_ne _ _ (by decide), ef_6, va_up_ne _ _ (by decide), ef_5, va_up_ne _ _ (by decide)]; exact c_9
        have c_90 : f_10 90 = .inr (4, [.ref (ad 91), .ref (ad 94), .ref (ad 96), .ref (ad 97), .ref (ad 98), .ref (ad 99), .int (nI 0)]) := by rw [ef_10, va_up_ne _ _ (by decide), ef_9, va_up_ne _ _ (by decide), ef_8, va_up_ne _ _ (by decide), ef_7, va_up_ne _ _ (by decide), ef_6, va_up_ne _ _ (by decide), ef_5, va_up_ne _ _ (by decide)]; exact c_90
        have c_91 : f_10 91 = .inr (2, [.ref (ad 92), .ref (ad 93)]) := by rw [ef_10, va_up_ne _ _ (by decide), ef_9, va_up_ne _ _ (by decide), ef_8, va_up_ne _ _ (by decide), ef_7, va_up_ne _ _ (by decide), ef_6, va_up_ne _ _ (by decide), ef_5, va_up_ne _ _ (by decide)]; exact c_91
        have c_92 : f_10 92 = ai (ca 0) 8 z0 := by rw [ef_10, va_up_ne _ _ (by decide), ef_9, va_up_ne _ _ (by decide), ef_8, va_up_ne _ _ (by decide), ef_7, va_up_ne _ _ (by decide), ef_6, va_up_ne _ _ (by decide), ef_5, va_up_ne _ _ (by decide)]; exact c_92
        have c_93 : f_10 93 = ai (ca 0) 64 z0 := by rw [ef_10, va_up_ne _ _ (by decide), ef_9, va_up_ne _ _ (by decide), ef_8, va_up_ne _ _ (by decide), ef_7, va_up_ne _ _ (by decide), ef_6, va_up_ne _ _ (by decide), ef_5, va_up_ne _ _ (by decide)]; exact c_93
        have c_94 : f_10 94 = .inr (3, [.ref (ad 95), .int (nI 0)]) := by rw [ef_10, va_up_ne _ _ (by decide), ef_9, va_up_ne _ _ (by decide), ef_8, va_up_ne _ _ (by decide), ef_7, va_up_ne _ _ (by decide), ef_6, va_up_ne _ _ (by decide), ef_5, va_up_ne _ _ (by decide)]; exact c_94
        have c_95 : f_10 95 = ai (ca 0) 200 z0 := by rw [ef_10, va_up_ne _ _ (by decide), ef_9, va_up_ne _ _ (by decide), ef_8, va_up_ne _ _ (by decide), ef_7, va_up_ne _ _ (by decide), ef_6, va_up_ne _ _ (by decide), ef_5, va_up_ne _ _ (by decide)]; exact c_95
        have c_96 : f_10 96 = ai (ca 0) 200 z0 := by rw [ef_10, va_up_ne _ _ (by decide), ef_9, va_up_ne _ _ (by decide), ef_8, va_up_ne _ _ (by decide), ef_7, va_up_ne _ _ (by decide), ef_6, va_up_ne _ _ (by decide), ef_5, va_up_ne _ _ (by decide)]; exact c_96
        have c_97 : f_10 97 = ai (ca 0) 200 z0 := by rw [ef_10, va_up_ne _ _ (by decide), ef_9, va_up_ne _ _ (by decide), ef_8, va_up_ne _ _ (by decide), ef_7, va_up_ne _ _ (by decide), ef_6, va_up_ne _ _ (by decide), ef_5, va_up_ne _ _ (by decide)]; exact c_97
        have c_98 : f_10 98 = ai (ca 0) 200 z0 := by rw [ef_10, va_up_ne _ _ (by decide), ef_9, va_up_ne _ _ (by decide), ef_8, va_up_ne _ _ (by decide), ef_7, va_up_ne _ _ (by decide), ef_6, va_up_ne _ _ (by decide), ef_5, va_up_ne _ _ (by decide)]; exact c_98
        have c_99 : f_10 99 = aq (ca 4) 200 (fun i => some (ad (100 + i))) := by rw [ef_10, va_up_ne _ _ (by decide), ef_9, va_up_ne _ _ (by decide), ef_8, va_up_ne _ _ (by decide), ef_7, va_up_ne _ _ (by decide), ef_6, va_up_ne _ _ (by decide), ef_5, va_up_ne _ _ (by decide)]; exact c_99
        have c_300 : f_10 300 = ai (ca 0) 20 z0 := by rw [ef_10, va_up_ne _ _ (by decide), ef_9, va_up_ne _ _ (by decide), ef_8, va_up_ne _ _ (by decide), ef_7, va_up_ne _ _ (by decide)]; exact c_300
        have c_301 : f_10 301 = ai (ca 2) 20 z0 := by rw [ef_10, va_up_ne _ _ (by decide), ef_9, va_up_ne _ _ (by decide)]; exact c_301
        have hp : ∃ (z : Nat → Nat → Int32) (zn : Nat) (tb : Nat → Int32), RepX ca ad (x5n cap) x5g z zn tb f_10 := by
          refine ⟨fun _ => z0, 0, ctb 256, c_0, c_1, c_2, c_3, c_4, c_5, c_6, c_7, c_8, c_9, c_90, c_91, c_92, c_93, c_94, c_95, c_96, c_97, c_98, c_99, c_300, c_301, (fun i hi => by rw [ef_10, va_up_ne _ _ (by omega), ef_9, va_up_ne _ _ (by omega), ef_8, va_up_ne _ _ (by omega), ef_7, va_up_ne _ _ (by omega), ef_6, va_up_ne _ _ (by omega), ef_5, va_up_ne _ _ (by omega), ef_4, x3F_lo _ _ _ (by omega), ef_3, va_up_ne _ _ (by omega), ef_2, va_up_ne _ _ (by omega), x5F_hi _ _ _ _ (by omega), x5K_0]; rfl), (fun i hi => by rw [ef_10, va_up_ne _ _ (by omega), ef_9, va_up_ne _ _ (by omega), ef_8, va_up_ne _ _ (by omega), ef_7, va_up_ne _ _ (by omega), ef_6, va_up_ne _ _ (by omega), ef_5, va_up_ne _ _ (by omega), ef_4, x3F_lo _ _ _ (by omega), ef_3, va_up_ne _ _ (by omega), ef_2, va_up_ne _ _ (by omega), x5F_hi _ _ _ _ (by omega), x5K_1, x5n_hi _ (by omega)]), (fun i hi => by rw [ef_10, va_up_ne _ _ (by omega), ef_9, va_up_ne _ _ (by omega), ef_8, va_up_ne _ _ (by omega), ef_7, va_up_ne _ _ (by omega), ef_6, va_up_ne _ _ (by omega), ef_5, va_up_ne _ _ (by omega), ef_4, x3F_lo _ _ _ (by omega), ef_3, va_up_ne _ _ (by omega), ef_2, va_up_ne _ _ (by omega), x5F_hi _ _ _ _ (by omega), x5K_2, x5g_hi (by omega)]), (fun i hi => by rw [ef_10, va_up_ne _ _ (by omega), ef_9, va_up_ne _ _ (by omega), ef_8, va_up_ne _ _ (by omega), ef_7, va_up_ne _ _ (by omega), ef_6, va_up_ne _ _ (by omega), ef_5, va_up_ne _ _ (by omega), ef_4, x3F_lo _ _ _ (by omega), ef_3, va_up_ne _ _ (by omega), ef_2, va_up_ne _ _ (by omega), x5F_hi _ _ _ _ (by omega), x5K_3, x5g_hi (by omega)]), (fun i hi => by rw [ef_10, va_up_ne _ _ (by omega), ef_9, va_up_ne _ _ (by omega), ef_8, va_up_ne _ _ (by omega), ef_7, va_up_ne _ _ (by omega), ef_6, va_up_ne _ _ (by omega), ef_5, va_up_ne _ _ (by omega), ef_4, x3F_hi _ _ _ (by omega), x5g_hi (by omega)]), by omega, fun j hj => if_pos hj⟩
        exact x_vret hx hb hr hlocks hw hp dX5_init_127
      · refine lv_aload_n hx hb dX5_init_76 rfl (lv_at hl 0 rfl) ?_
        refine x_get (ci := 6) (C := RX5) (T := TX5) (n := 13) (ref := RX5) hx hb hts hin_6 hown hK hw 0 (by omega) c_0 rfl 6 (by decide) hf_49 (fun _ h => h) rfl dX5_init_77 ?_
        refine lv_iload_n hx hb dX5_init_80 rfl (lv_at hl 2 rfl) ?_
        refine x_new (ci := 1) (fs := [.null, .null, .int (nI 0), .int (nI 0), .int (nI 0), .int (nI 0), .int (nI 0), .int (nI 0)]) (C := RX0) (T := TX0) (n := 8) hx hb hts hin_1 tyX0 tyX0_ok hown (hts (.classLink RX5 47 RX0) (by decide +kernel)) (hts (.instantiable RX0 8) (by decide +kernel)) (hts (.initialized RX0) (by decide +kernel)) hK had hB hs hw rfl (by decide +kernel) (show (9 + 4 * i) + 1 ≤ 301 by omega) (show (561 + 218 * i) + 8 ≤ 7644 by omega) dX5_init_81 (fun H hw => ?_)
        obtain ⟨f_11, ef_11⟩ : ∃ z, z = va_up f_1 (10 + 4 * i) (.inr (1, [.null, .null, .int (nI 0), .int (nI 0), .int (nI 0), .int (nI 0), .int (nI 0), .int (nI 0)])) := ⟨_, rfl⟩
        have dd := xD_of had (10 + 4 * i + 1)
        have hs : s.heap.size + ((9 + 4 * i) + 1) ≤ B + (10 + 4 * i + 1) := by omega
        have hw : xw D vwCl (10 + 4 * i + 1) ad B s.heap f_11 H locs := by rw [ef_11]; exact hw
        have c_10_4_i : f_11 (10 + 4 * i) = .inr (1, [.null, .null, .int (nI 0), .int (nI 0), .int (nI 0), .int (nI 0), .int (nI 0), .int (nI 0)]) := va_up_of ef_11
        refine lv_dup hx hb dX5_init_84 rfl ?_
        refine x_IN (q := 10 + 4 * i) (As := []) (rest := [.ref (ad (10 + 4 * i)), .int (nI i), .ref (ad 9)]) ⟨hx, hb, hml, hown, hts⟩ (k_X0_init l D ca (10 + 4 * i + 1) ad B tR tK f_11 had (10 + 4 * i) (by omega) c_10_4_i ) ⟨va_cnB 0 hts gX5_init_X0_init_n53 rfl rfl rfl (hE.2.1 (RX5, 53, yX0_init) (by decide)) (hts (.initialized RX0) (by decide +kernel)) (by decide +kernel) ⟨Nat.le_of_ble_eq_true rfl, Nat.le_of_ble_eq_true rfl⟩, rfl, hts (.instanceMethod yX0_init) (by decide +kernel)⟩ hK hE hO hB hs hw rfl rfl hl.1 (Nat.le_of_ble_eq_true rfl) ⟨(show ((9 + 4 * i) + 1) + 3 ≤ 301 by omega), (show ((561 + 218 * i) + 8) + 210 ≤ 7644 by omega)⟩ dX5_init_85 (fun f_12 H locs hp hw => ?_)
        have dd := xD_of had (10 + 4 * i + 1 + 3)
        have hs : s.heap.size + (((9 + 4 * i) + 1) + 3) ≤ B + (10 + 4 * i + 1 + 3) := by omega
        have ef_12 : f_12 = va_up (va_up (va_up (va_up f_11 ((10 + 4 * i + 1) + 1) (ai (ca 0) 200 z0)) (10 + 4 * i + 1) (.inr (3, [.ref (ad ((10 + 4 * i + 1) + 1)), .int (nI 0)]))) ((10 + 4 * i + 1) + 2) (ai (ca 0) 8 z0)) (10 + 4 * i) (.inr (1, [.ref (ad (10 + 4 * i + 1)), .ref (ad ((10 + 4 * i + 1) + 2)), .int (nI 0), .int (nI 0), .int ((-1)), .int ((-1)), .int (nI 0), .int (nI 0)])) := hp
        have hw : xw D vwCl (10 + 4 * i + 1 + 3) ad B s.heap f_12 H locs := hw
        have c_10_4_i_1_1 : f_12 ((10 + 4 * i + 1) + 1) = ai (ca 0) 200 z0 := by rw [ef_12, va_up_ne _ _ (by omega), va_up_ne _ _ (by omega), va_up_ne _ _ (by omega), va_up_self]
        have c_10_4_i_1 : f_12 (10 + 4 * i + 1) = .inr (3, [.ref (ad ((10 + 4 * i + 1) + 1)), .int (nI 0)]) := by rw [ef_12, va_up_ne _ _ (by omega), va_up_ne _ _ (by omega), va_up_self]
        have c_10_4_i_1_2 : f_12 ((10 + 4 * i + 1) + 2) = ai (ca 0) 8 z0 := by rw [ef_12, va_up_ne _ _ (by omega), va_up_self]
        have c_10_4_i : f_12 (10 + 4 * i) = .inr (1, [.ref (ad (10 + 4 * i + 1)), .ref (ad ((10 + 4 * i + 1) + 2)), .int (nI 0), .int (nI 0), .int ((-1)), .int ((-1)), .int (nI 0), .int (nI 0)]) := by rw [ef_12, va_up_self]
        have c_9 : f_12 9 = aq (ca 3) 20 (fun j => if j < i then some (ad (10 + 4 * j)) else none) := by rw [ef_12, va_up_ne _ _ (by omega), va_up_ne _ _ (by omega), va_up_ne _ _ (by omega), va_up_ne _ _ (by omega), ef_11, va_up_ne _ _ (by omega)]; exact c_9
        refine x_astq (j := i) hx hb hK dd hw 9 3 (10 + 4 * i) 1 (by omega) (by omega) c_9 rfl c_10_4_i rfl rfl (by omega) (by decide) dX5_init_88 (fun H locs hw => ?_)
        obtain ⟨f_13, ef_13⟩ : ∃ z, z = va_up f_12 9 (aq (ca 3) 20 (va_up (fun j => if j < i then some (ad (10 + 4 * j)) else none) i (some (ad (10 + 4 * i))))) := ⟨_, rfl⟩
        have hw : xw D vwCl (10 + 4 * i + 1 + 3) ad B s.heap f_13 H locs := by rw [ef_13]; exact hw
        have c_9 : f_13 9 = aq (ca 3) 20 (va_up (fun j => if j < i then some (ad (10 + 4 * j)) else none) i (some (ad (10 + 4 * i)))) := va_up_of ef_13
        refine lv_iinc (v := nI (i + 1)) (lv' := [(2, .int (nI (i + 1))), (0, .ref (ad 0)), (1, .int x)]) hx hb dX5_init_89 hl (k := 2) rfl (by rw [show Int32.ofInt 1 = nI 1 from rfl]; exact nI_add _ _) (by decide) rfl (fun ls hl => ?_)
        refine lv_goto (tgt := 70) hx hb dX5_init_92 (by decide) ?_
        have c_10_4_i : f_13 (10 + 4 * i) = .inr (1, [.ref (ad (10 + 4 * i + 1)), .ref (ad ((10 + 4 * i + 1) + 2)), .int (nI 0), .int (nI 0), .int ((-1)), .int ((-1)), .int (nI 0), .int (nI 0)]) := by rw [ef_13, va_up_ne _ _ (by omega)]; exact c_10_4_i
        have c_10_4_i_1 : f_13 (10 + 4 * i + 1) = .inr (3, [.ref (ad ((10 + 4 * i + 1) + 1)), .int (nI 0)]) := by rw [ef_13, va_up_ne _ _ (by omega)]; exact c_10_4_i_1
        have c_10_4_i_1_1 : f_13 ((10 + 4 * i + 1) + 1) = ai (ca 0) 200 z0 := by rw [ef_13, va_up_ne _ _ (by omega)]; exact c_10_4_i_1_1
        have c_10_4_i_1_2 : f_13 ((10 + 4 * i + 1) + 2) = ai (ca 0) 8 z0 := by rw [ef_13, va_up_ne _ _ (by omega)]; exact c_10_4_i_1_2
        have hw : xw D vwCl (10 + 4 * (i + 1)) ad B s.heap (x5F ca ad cap (i + 1)) H locs := by
          have en : 10 + 4 * (i + 1) = 10 + 4 * i + 1 + 3 := by omega
          rw [en]
          refine hw.ext (fun k hk => ?_)
          by_cases k9 : k = 9
          · rw [k9, c_9]; exact (congrArg (aq (ca 3) 20) (x5_arr ad i)).symm
          by_cases k0 : k = 10 + 4 * i
          · rw [k0, c_10_4_i, x5F_hi _ _ _ _ (by omega), x5K_0]; rw [show 11 + 4 * i = 10 + 4 * i + 1 by omega, show 13 + 4 * i = 10 + 4 * i + 1 + 2 by omega]
          by_cases k1 : k = 10 + 4 * i + 1
          · rw [k1, c_10_4_i_1, show 10 + 4 * i + 1 = 11 + 4 * i by omega, x5F_hi _ _ _ _ (by omega), x5K_1]; rw [show 12 + 4 * i = 11 + 4 * i + 1 by omega]
          by_cases k3 : k = 10 + 4 * i + 1 + 1
          · rw [k3, c_10_4_i_1_1, show 10 + 4 * i + 1 + 1 = 12 + 4 * i by omega, x5F_hi _ _ _ _ (by omega), x5K_2]
          by_cases k4 : k = 10 + 4 * i + 1 + 2
          · rw [k4, c_10_4_i_1_2, show 10 + 4 * i + 1 + 2 = 13 + 4 * i by omega, x5F_hi _ _ _ _ (by omega), x5K_3]
          rw [ef_13, va_up_ne _ _ (by omega), ef_12, va_up_ne _ _ (by omega), va_up_ne _ _ (by omega), va_up_ne _ _ (by omega), va_up_ne _ _ (by omega), ef_11, va_up_ne _ _ (by omega), ef_1]
          exact x5F_s _ _ _ _ _ k9
        exact W_cast (ih_70 (i + 1) _ _ _ (by omega) (by omega) hw (lv_sub hl [1, 2, 0] rfl)) (by omega) (by omega)
  refine lv_aload_n hx hb dX5_init_0 rfl (lv_at hl 0 rfl) ?_
  refine W.objInit hx hb hown (hts (.methodLink RX5 1 objectInit) (by decide +kernel)) (hts (.instanceMethod objectInit) (by decide +kernel)) (hts _ (List.mem_of_getElem? (i := 3) rfl)) rfl (by rw [hml]; exact hl.1) rfl dX5_init_1 (Nat.le_of_ble_eq_true rfl) (Nat.le_of_ble_eq_true rfl) ?_
  refine W.eq (g2 := F0 m 4 ls []) rfl ?_
  refine lv_aload_n hx hb dX5_init_4 rfl (lv_at hl 0 rfl) ?_
  refine lv_iconst (v := nI 1) hx hb dX5_init_5 (by decide) ?_
  refine lv_bipush (v := nI 20) hx hb dX5_init_6 (by decide) ?_
  refine lv_iload_n hx hb dX5_init_8 rfl (lv_at hl 1 rfl) ?_
  refine va_mmin hx hb (hml.trans hl.1.symm) hown (hts (.methodLink RX5 9 Lib.Math.min.name) (by decide +kernel)) (hts (.static Lib.Math.min.name) (by decide +kernel)) (hts (.initialized "java/lang/Math") (by decide +kernel)) (hts (.code Lib.Math.min.name Lib.Math.min.code 2 (some .int)) (by decide +kernel)) (Nat.le_of_ble_eq_true rfl) (Nat.le_of_ble_eq_true rfl) (Nat.le_of_ble_eq_true rfl) (Nat.le_of_ble_eq_true rfl) dX5_init_9 ?_
  refine va_mmax hx hb (hml.trans hl.1.symm) hown (hts (.methodLink RX5 15 Lib.Math.max.name) (by decide +kernel)) (hts (.static Lib.Math.max.name) (by decide +kernel)) (hts (.initialized "java/lang/Math") (by decide +kernel)) (hts (.code Lib.Math.max.name Lib.Math.max.code 2 (some .int)) (by decide +kernel)) (Nat.le_of_ble_eq_true rfl) (Nat.le_of_ble_eq_true rfl) (Nat.le_of_ble_eq_true rfl) (Nat.le_of_ble_eq_true rfl) dX5_init_12 ?_
  rw [hc]
  refine x_putF (ci := 6) (C := RX5) (T := TX5) (n := 13) (ref := RX5) (fs' := [.int (nI cap), .null, .null, .null, .null, .int (nI 0), .null, .int (nI 0), .null, .null, .null, .int (nI 0), .int (nI 0)]) hx hb hts hin_6 tyX5 tyX5_ok nmX5 hown hK dd hw 0 (by omega) c_0 rfl 0 (by decide) hf_18 (fun _ h => h) rfl hnm rfl rfl rfl (Nat.le_of_ble_eq_true rfl) rfl dX5_init_15 (fun H locs hw => ?_)
  obtain ⟨f_14, ef_14⟩ : ∃ z, z = va_up f 0 (.inr (6, [.int (nI cap), .null, .null, .null, .null, .int (nI 0), .null, .int (nI 0), .null, .null, .null, .int (nI 0), .int (nI 0)])) := ⟨_, rfl⟩
  have hw : xw D vwCl 1 ad B s.heap f_14 H locs := by rw [ef_14]; exact hw
  have c_0 : f_14 0 = .inr (6, [.int (nI cap), .null, .null, .null, .null, .int (nI 0), .null, .int (nI 0), .null, .null, .null, .int (nI 0), .int (nI 0)]) := va_up_of ef_14
  refine lv_aload_n hx hb dX5_init_18 rfl (lv_at hl 0 rfl) ?_
  refine x_new (ci := 2) (fs := [.null, .null]) (C := RX1) (T := TX1) (n := 2) hx hb hts hin_2 tyX1 tyX1_ok hown (hts (.classLink RX5 22 RX1) (by decide +kernel)) (hts (.instantiable RX1 2) (by decide +kernel)) (hts (.initialized RX1) (by decide +kernel)) hK had hB hs hw rfl (by decide +kernel) (Nat.le_of_ble_eq_true rfl) (Nat.le_of_ble_eq_true rfl) dX5_init_19 (fun H hw => ?_)
  obtain ⟨f_15, ef_15⟩ : ∃ z, z = va_up f_14 1 (.inr (2, [.null, .null])) := ⟨_, rfl⟩
  have dd := xD_of had 2
  have hs : s.heap.size + 1 ≤ B + 2 := by omega
  have hw : xw D vwCl 2 ad B s.heap f_15 H locs := by rw [ef_15]; exact hw
  have c_1 : f_15 1 = .inr (2, [.null, .null]) := va_up_of ef_15
  refine lv_dup hx hb dX5_init_22 rfl ?_
  refine x_IN (q := 1) (As := []) (rest := [.ref (ad 1), .ref (ad 0)]) ⟨hx, hb, hml, hown, hts⟩ (k_X1_init l D ca 2 ad B tR tK f_15 had 1 (by omega) c_1 ) ⟨va_cnB 0 hts gX5_init_X1_init_n24 rfl rfl rfl (hE.2.1 (RX5, 24, yX1_init) (by decide)) (hts (.initialized RX1) (by decide +kernel)) (by decide +kernel) ⟨Nat.le_of_ble_eq_true rfl, Nat.le_of_ble_eq_true rfl⟩, rfl, hts (.instanceMethod yX1_init) (by decide +kernel)⟩ hK hE hO hB hs hw rfl rfl hl.1 (Nat.le_of_ble_eq_true rfl) ⟨(Nat.le_of_ble_eq_true rfl), (Nat.le_of_ble_eq_true rfl)⟩ dX5_init_23 (fun f_16 H locs hp hw => ?_)
  have dd := xD_of had 4
  have hs : s.heap.size + 3 ≤ B + 4 := by omega
  have ef_16 : f_16 = va_up (va_up (va_up f_15 2 (ai (ca 0) 8 z0)) 3 (ai (ca 0) 64 z0)) 1 (.inr (2, [.ref (ad 2), .ref (ad 3)])) := hp
  have hw : xw D vwCl 4 ad B s.heap f_16 H locs := hw
  have c_2 : f_16 2 = ai (ca 0) 8 z0 := by rw [ef_16, va_up_ne _ _ (by decide), va_up_ne _ _ (by decide), va_up_self]
  have c_3 : f_16 3 = ai (ca 0) 64 z0 := by rw [ef_16, va_up_ne _ _ (by decide), va_up_self]
  have c_1 : f_16 1 = .inr (2, [.ref (ad 2), .ref (ad 3)]) := by rw [ef_16, va_up_self]
  have c_0 : f_16 0 = .inr (6, [.int (nI cap), .null, .null, .null, .null, .int (nI 0), .null, .int (nI 0), .null, .null, .null, .int (nI 0), .int (nI 0)]) := by rw [ef_16, va_up_ne _ _ (by decide), va_up_ne _ _ (by decide), va_up_ne _ _ (by decide), ef_15, va_up_ne _ _ (by decide)]; exact c_0
  refine x_putF (ci := 6) (C := RX5) (T := TX5) (n := 13) (ref := RX5) (fs' := [.int (nI cap), .ref (ad 1), .null, .null, .null, .int (nI 0), .null, .int (nI 0), .null, .null, .null, .int (nI 0), .int (nI 0)]) hx hb hts hin_6 tyX5 tyX5_ok nmX5 hown hK dd hw 0 (by omega) c_0 rfl 1 (by decide) hf_25 (fun _ h => h) rfl hnm rfl rfl rfl (Nat.le_of_ble_eq_true rfl) rfl dX5_init_26 (fun H locs hw => ?_)
  obtain ⟨f_17, ef_17⟩ : ∃ z, z = va_up f_16 0 (.inr (6, [.int (nI cap), .ref (ad 1), .null, .null, .null, .int (nI 0), .null, .int (nI 0), .null, .null, .null, .int (nI 0), .int (nI 0)])) := ⟨_, rfl⟩
  have hw : xw D vwCl 4 ad B s.heap f_17 H locs := by rw [ef_17]; exact hw
  have c_0 : f_17 0 = .inr (6, [.int (nI cap), .ref (ad 1), .null, .null, .null, .int (nI 0), .null, .int (nI 0), .null, .null, .null, .int (nI 0), .int (nI 0)]) := va_up_of ef_17
  refine lv_aload_n hx hb dX5_init_29 rfl (lv_at hl 0 rfl) ?_
  refine x_new (ci := 5) (fs := [.null]) (C := RX4) (T := TX4) (n := 1) hx hb hts hin_5 tyX4 tyX4_ok hown (hts (.classLink RX5 29 RX4) (by decide +kernel)) (hts (.instantiable RX4 1) (by decide +kernel)) (hts (.initialized RX4) (by decide +kernel)) hK had hB hs hw rfl (by decide +kernel) (Nat.le_of_ble_eq_true rfl) (Nat.le_of_ble_eq_true rfl) dX5_init_30 (fun H hw => ?_)
  obtain ⟨f_18, ef_18⟩ : ∃ z, z = va_up f_17 4 (.inr (5, [.null])) := ⟨_, rfl⟩
  have dd := xD_of had 5
  have hs : s.heap.size + 4 ≤ B + 5 := by omega
  have hw : xw D vwCl 5 ad B s.heap f_18 H locs := by rw [ef_18]; exact hw
  have c_4 : f_18 4 = .inr (5, [.null]) := va_up_of ef_18
  refine lv_dup hx hb dX5_init_33 rfl ?_
  refine x_I (q := 4) (As := []) (rest := [.ref (ad 4), .ref (ad 0)]) ⟨hx, hb, hml, hown, hts⟩ (k_X4_init l D ca 5 ad B tR tK f_18 had 4 (by omega) c_4 ) (cwI 0 hts gX5_init_X4_init rfl rfl rfl (hts (.initialized RX4) (by decide +kernel)) (hts (.methodLink RX5 31 yX4_init) (by decide +kernel)) (hts (.instanceMethod yX4_init) (by decide +kernel)) rfl (by decide +kernel) ⟨Nat.le_of_ble_eq_true rfl, Nat.le_of_ble_eq_true rfl⟩) hK hE hO hB hs hw rfl rfl hl.1 (Nat.le_of_ble_eq_true rfl) ⟨(Nat.le_of_ble_eq_true rfl), (Nat.le_of_ble_eq_true rfl)⟩ dX5_init_34 (fun f_19 H locs hp hw => ?_)
  have dd := xD_of had 6
  have hs : s.heap.size + 5 ≤ B + 6 := by omega
  have ef_19 : f_19 = va_up (va_up f_18 5 (ai (ca 0) 256 (ctb 256))) 4 (.inr (5, [.ref (ad 5)])) := hp
  have hw : xw D vwCl 6 ad B s.heap f_19 H locs := hw
  have c_5 : f_19 5 = ai (ca 0) 256 (ctb 256) := by rw [ef_19, va_up_ne _ _ (by decide), va_up_self]
  have c_4 : f_19 4 = .inr (5, [.ref (ad 5)]) := by rw [ef_19, va_up_self]
  have c_0 : f_19 0 = .inr (6, [.int (nI cap), .ref (ad 1), .null, .null, .null, .int (nI 0), .null, .int (nI 0), .null, .null, .null, .int (nI 0), .int (nI 0)]) := by rw [ef_19, va_up_ne _ _ (by decide), va_up_ne _ _ (by decide), ef_18, va_up_ne _ _ (by decide)]; exact c_0
  refine x_putF (ci := 6) (C := RX5) (T := TX5) (n := 13) (ref := RX5) (fs' := [.int (nI cap), .ref (ad 1), .ref (ad 4), .null, .null, .int (nI 0), .null, .int (nI 0), .null, .null, .null, .int (nI 0), .int (nI 0)]) hx hb hts hin_6 tyX5 tyX5_ok nmX5 hown hK dd hw 0 (by omega) c_0 rfl 2 (by decide) hf_32 (fun _ h => h) rfl hnm rfl rfl rfl (Nat.le_of_ble_eq_true rfl) rfl dX5_init_37 (fun H locs hw => ?_)
  obtain ⟨f_20, ef_20⟩ : ∃ z, z = va_up f_19 0 (.inr (6, [.int (nI cap), .ref (ad 1), .ref (ad 4), .null, .null, .int (nI 0), .null, .int (nI 0), .null, .null, .null, .int (nI 0), .int (nI 0)])) := ⟨_, rfl⟩
  have hw : xw D vwCl 6 ad B s.heap f_20 H locs := by rw [ef_20]; exact hw
  have c_0 : f_20 0 = .inr (6, [.int (nI cap), .ref (ad 1), .ref (ad 4), .null, .null, .int (nI 0), .null, .int (nI 0), .null, .null, .null, .int (nI 0), .int (nI 0)]) := va_up_of ef_20
  refine lv_aload_n hx hb dX5_init_40 rfl (lv_at hl 0 rfl) ?_
  refine x_new (ci := 3) (fs := [.null, .int (nI 0)]) (C := RX2) (T := TX2) (n := 2) hx hb hts hin_3 tyX2 tyX2_ok hown (hts (.classLink RX5 36 RX2) (by decide +kernel)) (hts (.instantiable RX2 2) (by decide +kernel)) (hts (.initialized RX2) (by decide +kernel)) hK had hB hs hw rfl (by decide +kernel) (Nat.le_of_ble_eq_true rfl) (Nat.le_of_ble_eq_true rfl) dX5_init_41 (fun H hw => ?_)
  obtain ⟨f_21, ef_21⟩ : ∃ z, z = va_up f_20 6 (.inr (3, [.null, .int (nI 0)])) := ⟨_, rfl⟩
  have dd := xD_of had 7
  have hs : s.heap.size + 6 ≤ B + 7 := by omega
  have hw : xw D vwCl 7 ad B s.heap f_21 H locs := by rw [ef_21]; exact hw
  have c_6 : f_21 6 = .inr (3, [.null, .int (nI 0)]) := va_up_of ef_21
  refine lv_dup hx hb dX5_init_44 rfl ?_
  refine x_IN (q := 6) (As := []) (rest := [.ref (ad 6), .ref (ad 0)]) ⟨hx, hb, hml, hown, hts⟩ (k_X2_init l D ca 7 ad B tR tK f_21 had 6 (by omega) c_6 ) ⟨va_cnB 0 hts gX5_init_X2_init_n38 rfl rfl rfl (hE.2.1 (RX5, 38, yX2_init) (by decide)) (hts (.initialized RX2) (by decide +kernel)) (by decide +kernel) ⟨Nat.le_of_ble_eq_true rfl, Nat.le_of_ble_eq_true rfl⟩, rfl, hts (.instanceMethod yX2_init) (by decide +kernel)⟩ hK hE hO hB hs hw rfl rfl hl.1 (Nat.le_of_ble_eq_true rfl) ⟨(Nat.le_of_ble_eq_true rfl), (Nat.le_of_ble_eq_true rfl)⟩ dX5_init_45 (fun f_22 H locs hp hw => ?_)
  have dd := xD_of had 8
  have hs : s.heap.size + 7 ≤ B + 8 := by omega
  have ef_22 : f_22 = va_up (va_up f_21 7 (ai (ca 0) 200 z0)) 6 (.inr (3, [.ref (ad 7), .int (nI 0)])) := hp
  have hw : xw D vwCl 8 ad B s.heap f_22 H locs := hw
  have c_7 : f_22 7 = ai (ca 0) 200 z0 := by rw [ef_22, va_up_ne _ _ (by decide), va_up_self]
  have c_6 : f_22 6 = .inr (3, [.ref (ad 7), .int (nI 0)]) := by rw [ef_22, va_up_self]
  have c_0 : f_22 0 = .inr (6, [.int (nI cap), .ref (ad 1), .ref (ad 4), .null, .null, .int (nI 0), .null, .int (nI 0), .null, .null, .null, .int (nI 0), .int (nI 0)]) := by rw [ef_22, va_up_ne _ _ (by decide), va_up_ne _ _ (by decide), ef_21, va_up_ne _ _ (by decide)]; exact c_0
  refine x_putF (ci := 6) (C := RX5) (T := TX5) (n := 13) (ref := RX5) (fs' := [.int (nI cap), .ref (ad 1), .ref (ad 4), .ref (ad 6), .null, .int (nI 0), .null, .int (nI 0), .null, .null, .null, .int (nI 0), .int (nI 0)]) hx hb hts hin_6 tyX5 tyX5_ok nmX5 hown hK dd hw 0 (by omega) c_0 rfl 3 (by decide) hf_39 (fun _ h => h) rfl hnm rfl rfl rfl (Nat.le_of_ble_eq_true rfl) rfl dX5_init_48 (fun H locs hw => ?_)
  obtain ⟨f_23, ef_23⟩ : ∃ z, z = va_up f_22 0 (.inr (6, [.int (nI cap), .ref (ad 1), .ref (ad 4), .ref (ad 6), .null, .int (nI 0), .null, .int (nI 0), .null, .null, .null, .int (nI 0), .int (nI 0)])) := ⟨_, rfl⟩
  have hw : xw D vwCl 8 ad B s.heap f_23 H locs := by rw [ef_23]; exact hw
  have c_0 : f_23 0 = .inr (6, [.int (nI cap), .ref (ad 1), .ref (ad 4), .ref (ad 6), .null, .int (nI 0), .null, .int (nI 0), .null, .null, .null, .int (nI 0), .int (nI 0)]) := va_up_of ef_23
  refine lv_aload_n hx hb dX5_init_51 rfl (lv_at hl 0 rfl) ?_
  refine lv_bipush (v := nI 8) hx hb dX5_init_52 (by decide) ?_
  refine x_newa (atype := .int) (ty := .int) (cT := ca 0) (N' := 8) (z := (8, .inl z0)) hx hb (hts (.arrayClass .int) (by decide +kernel)) rfl hK had hB hs hw 0 rfl (fun _ _ h => h) (fun cA => z0_i cA _) (by decide) (nI_clamp (by decide)) (by decide) (Nat.le_of_ble_eq_true rfl) (Nat.le_of_ble_eq_true rfl) dX5_init_54 (fun H hw => ?_)
  obtain ⟨f_24, ef_24⟩ : ∃ z, z = va_up f_23 8 (ai (ca 0) 8 z0) := ⟨_, rfl⟩
  have dd := xD_of had 9
  have hs : s.heap.size + 8 ≤ B + 9 := by omega
  have hw : xw D vwCl 9 ad B s.heap f_24 H locs := by rw [ef_24]; exact hw
  have c_8 : f_24 8 = ai (ca 0) 8 z0 := va_up_of ef_24
  have c_0 : f_24 0 = .inr (6, [.int (nI cap), .ref (ad 1), .ref (ad 4), .ref (ad 6), .null, .int (nI 0), .null, .int (nI 0), .null, .null, .null, .int (nI 0), .int (nI 0)]) := by rw [ef_24, va_up_ne _ _ (by decide)]; exact c_0
  refine x_putF (ci := 6) (C := RX5) (T := TX5) (n := 13) (ref := RX5) (fs' := [.int (nI cap), .ref (ad 1), .ref (ad 4), .ref (ad 6), .ref (ad 8), .int (nI 0), .null, .int (nI 0), .null, .null, .null, .int (nI 0), .int (nI 0)]) hx hb hts hin_6 tyX5 tyX5_ok nmX5 hown hK dd hw 0 (by omega) c_0 rfl 4 (by decide) hf_43 (fun _ h => h) rfl hnm rfl rfl rfl (Nat.le_of_ble_eq_true rfl) rfl dX5_init_56 (fun H locs hw => ?_)
  obtain ⟨f_25, ef_25⟩ : ∃ z, z = va_up f_24 0 (.inr (6, [.int (nI cap), .ref (ad 1), .ref (ad 4), .ref (ad 6), .ref (ad 8), .int (nI 0), .null, .int (nI 0), .null, .null, .null, .int (nI 0), .int (nI 0)])) := ⟨_, rfl⟩
  have hw : xw D vwCl 9 ad B s.heap f_25 H locs := by rw [ef_25]; exact hw
  have c_0 : f_25 0 = .inr (6, [.int (nI cap), .ref (ad 1), .ref (ad 4), .ref (ad 6), .ref (ad 8), .int (nI 0), .null, .int (nI 0), .null, .null, .null, .int (nI 0), .int (nI 0)]) := va_up_of ef_25
  refine lv_aload_n hx hb dX5_init_59 rfl (lv_at hl 0 rfl) ?_
  refine lv_bipush (v := nI 20) hx hb dX5_init_60 (by decide) ?_
  refine x_newq (N' := 20) hx hb hown (hts (.classLink RX5 47 RX0) (by decide +kernel)) hO.1 hK had hB hs hw 3 rfl (by decide) (by decide) (by decide) (Nat.le_of_ble_eq_true rfl) (Nat.le_of_ble_eq_true rfl) dX5_init_62 (fun H hw => ?_)
  obtain ⟨f_26, ef_26⟩ : ∃ z, z = va_up f_25 9 (aq (ca 3) 20 (fun _ => none)) := ⟨_, rfl⟩
  have dd := xD_of had 10
  have hs : s.heap.size + 9 ≤ B + 10 := by omega
  have hw : xw D vwCl 10 ad B s.heap f_26 H locs := by rw [ef_26]; exact hw
  have c_9 : f_26 9 = aq (ca 3) 20 (fun _ => none) := va_up_of ef_26
  have c_0 : f_26 0 = .inr (6, [.int (nI cap), .ref (ad 1), .ref (ad 4), .ref (ad 6), .ref (ad 8), .int (nI 0), .null, .int (nI 0), .null, .null, .null, .int (nI 0), .int (nI 0)]) := by rw [ef_26, va_up_ne _ _ (by decide)]; exact c_0
  refine x_putF (ci := 6) (C := RX5) (T := TX5) (n := 13) (ref := RX5) (fs' := [.int (nI cap), .ref (ad 1), .ref (ad 4), .ref (ad 6), .ref (ad 8), .int (nI 0), .ref (ad 9), .int (nI 0), .null, .null, .null, .int (nI 0), .int (nI 0)]) hx hb hts hin_6 tyX5 tyX5_ok nmX5 hown hK dd hw 0 (by omega) c_0 rfl 6 (by decide) hf_49 (fun _ h => h) rfl hnm rfl rfl rfl (Nat.le_of_ble_eq_true rfl) rfl dX5_init_65 (fun H locs hw => ?_)
  obtain ⟨f_27, ef_27⟩ : ∃ z, z = va_up f_26 0 (.inr (6, [.int (nI cap), .ref (ad 1), .ref (ad 4), .ref (ad 6), .ref (ad 8), .int (nI 0), .ref (ad 9), .int (nI 0), .null, .null, .null, .int (nI 0), .int (nI 0)])) := ⟨_, rfl⟩
  have hw : xw D vwCl 10 ad B s.heap f_27 H locs := by rw [ef_27]; exact hw
  have c_0 : f_27 0 = .inr (6, [.int (nI cap), .ref (ad 1), .ref (ad 4), .ref (ad 6), .ref (ad 8), .int (nI 0), .ref (ad 9), .int (nI 0), .null, .null, .null, .int (nI 0), .int (nI 0)]) := va_up_of ef_27
  refine lv_iconst (v := nI 0) hx hb dX5_init_68 (by decide) ?_
  refine lv_istore_n (lv' := [(2, .int (nI 0)), (0, .ref (ad 0)), (1, .int x)]) hx hb dX5_init_69 rfl hl (by decide) rfl (fun ls hl => ?_)
  have c_1 : f_27 1 = .inr (2, [.ref (ad 2), .ref (ad 3)]) := by rw [ef_27, va_up_ne _ _ (by decide), ef_26, va_up_ne _ _ (by decide), ef_25, va_up_ne _ _ (by decide), ef_24, va_up_ne _ _ (by decide), ef_23, va_up_ne _ _ (by decide), ef_22, va_up_ne _ _ (by decide), va_up_ne _ _ (by decide), ef_21, va_up_ne _ _ (by decide), ef_20, va_up_ne _ _ (by decide), ef_19, va_up_ne _ _ (by decide), va_up_ne _ _ (by decide), ef_18, va_up_ne _ _ (by decide), ef_17, va_up_ne _ _ (by decide)]; exact c_1
  have c_2 : f_27 2 = ai (ca 0) 8 z0 := by rw [ef_27, va_up_ne _ _ (by decide), ef_26, va_up_ne _ _ (by decide), ef_25, va_up_ne _ _ (by decide), ef_24, va_up_ne _ _ (by decide), ef_23, va_up_ne _ _ (by decide), ef_22, va_up_ne _ _ (by decide), va_up_ne _ _ (by decide), ef_21, va_up_ne _ _ (by decide), ef_20, va_up_ne _ _ (by decide), ef_19, va_up_ne _ _ (by decide), va_up_ne _ _ (by decide), ef_18, va_up_ne _ _ (by decide), ef_17, va_up_ne _ _ (by decide)]; exact c_2
  have c_3 : f_27 3 = ai (ca 0) 64 z0 := by rw [ef_27, va_up_ne _ _ (by decide), ef_26, va_up_ne _ _ (by decide), ef_25, va_up_ne _ _ (by decide), ef_24, va_up_ne _ _ (by decide), ef_23, va_up_ne _ _ (by decide), ef_22, va_up_ne _ _ (by decide), va_up_ne _ _ (by decide), ef_21, va_up_ne _ _ (by decide), ef_20, va_up_ne _ _ (by decide), ef_19, va_up_ne _ _ (by decide), va_up_ne _ _ (by decide), ef_18, va_up_ne _ _ (by decide), ef_17, va_up_ne _ _ (by decide)]; exact c_3
  have c_4 : f_27 4 = .inr (5, [.ref (ad 5)]) := by rw [ef_27, va_up_ne _ _ (by decide), ef_26, va_up_ne _ _ (by decide), ef_25, va_up_ne _ _ (by decide), ef_24, va_up_ne _ _ (by decide), ef_23, va_up_ne _ _ (by decide), ef_22, va_up_ne _ _ (by decide), va_up_ne _ _ (by decide), ef_21, va_up_ne _ _ (by decide), ef_20, va_up_ne _ _ (by decide)]; exact c_4
  have c_5 : f_27 5 = ai (ca 0) 256 (ctb 256) := by rw [ef_27, va_up_ne _ _ (by decide), ef_26, va_up_ne _ _ (by decide), ef_25, va_up_ne _ _ (by decide), ef_24, va_up_ne _ _ (by decide), ef_23, va_up_ne _ _ (by decide), ef_22, va_up_ne _ _ (by decide), va_up_ne _ _ (by decide), ef_21, va_up_ne _ _ (by decide), ef_20, va_up_ne _ _ (by decide)]; exact c_5
  have c_6 : f_27 6 = .inr (3, [.ref (ad 7), .int (nI 0)]) := by rw [ef_27, va_up_ne _ _ (by decide), ef_26, va_up_ne _ _ (by decide), ef_25, va_up_ne _ _ (by decide), ef_24, va_up_ne _ _ (by decide), ef_23, va_up_ne _ _ (by decide)]; exact c_6
  have c_7 : f_27 7 = ai (ca 0) 200 z0 := by rw [ef_27, va_up_ne _ _ (by decide), ef_26, va_up_ne _ _ (by decide), ef_25, va_up_ne _ _ (by decide), ef_24, va_up_ne _ _ (by decide), ef_23, va_up_ne _ _ (by decide)]; exact c_7
  have c_8 : f_27 8 = ai (ca 0) 8 z0 := by rw [ef_27, va_up_ne _ _ (by decide), ef_26, va_up_ne _ _ (by decide), ef_25, va_up_ne _ _ (by decide)]; exact c_8
  have c_9 : f_27 9 = aq (ca 3) 20 (fun _ => none) := by rw [ef_27, va_up_ne _ _ (by decide)]; exact c_9
  have hw : xw D vwCl (10 + 4 * 0) ad B s.heap (x5F ca ad cap 0) H locs := by
    have en : 10 + 4 * 0 = 10 := by omega
    rw [en]
    refine hw.ext (fun k hk => ?_)
    have k2 : k = 0 ∨ k = 1 ∨ k = 2 ∨ k = 3 ∨ k = 4 ∨ k = 5 ∨ k = 6 ∨ k = 7 ∨ k = 8 ∨ k = 9 := by omega
    rcases k2 with rfl | rfl | rfl | rfl | rfl | rfl | rfl | rfl | rfl | rfl
    · exact c_0
    · exact c_1
    · exact c_2
    · exact c_3
    · exact c_4
    · exact c_5
    · exact c_6
    · exact c_7
    · exact c_8
    · exact c_9.trans (by congr 3)
  exact W_cast (P_70 21 0 _ _ _ (by omega) (by omega) hw (lv_sub hl [1, 2, 0] rfl)) (by omega) (by omega)
