/-! ===== the reference: its object ===== -/
def mO (ad : Nat → Nat) (th cap cl fs : Nat) (wk : Int32) (td rw sh fi : Nat) : List Value := [.int (nI th), .int (nI cap), .int (nI cl), .ref (ad 303), .int (nI fs), .ref (ad 304), .ref (ad 305), .ref (ad 306), .ref (ad 307), .ref (ad 308), .ref (ad 309), .ref (ad 310), .ref (ad 311), .int wk, .int (nI td), .ref (ad 312), .ref (ad 313), .int (nI rw), .ref (ad 314), .ref (ad 315), .ref (ad 316), .ref (ad 317), .int (nI sh), .ref (ad 318), .int (nI fi), .ref (ad 319), .ref (ad 320), .ref (ad 321), .ref (ad 322), .ref (ad 323), .ref (ad 324), .ref (ad 325)]
/-- a byte as it is kept -/
def sB (x : Int32) : Int32 := x.toInt8.toInt32
/-- four kept bytes as a word -/
def be4 (b : Nat → Int32) (j : Nat) : Int32 := (b j &&& nI 255) <<< (nI 24 &&& 31) ||| (b (j + 1) &&& nI 255) <<< (nI 16 &&& 31) ||| (b (j + 2) &&& nI 255) <<< (nI 8 &&& 31) ||| b (j + 3) &&& nI 255
/-- the schedule as the reference makes it: t words of it -/
def wM (w b : Nat → Int32) (fr : Nat) : Nat → Nat → Int32
  | 0 => w
  | t + 1 => upd (wM w b fr t) t (if t < 16 then be4 b (fr + 4 * t) else stW (wM w b fr t) t)
theorem wM_lo (w b : Nat → Int32) (fr i : Nat) (h : i < 16) : wM w b fr (i + 1) = upd (wM w b fr i) i (be4 b (fr + 4 * i)) := by
  show upd _ i (if i < 16 then _ else _) = _
  rw [if_pos h]
theorem wM_hi (w b : Nat → Int32) (fr i : Nat) (h : 16 ≤ i) : wM w b fr (i + 1) = upd (wM w b fr i) i (stW (wM w b fr i) i) := by
  show upd _ i (if i < 16 then _ else _) = _
  rw [if_neg (by omega)]

abbrev rmX6_in : Room := { frames := 0, cells := 0, slots := 0, locals := 0 }

set_option maxHeartbeats 4000000 in
set_option maxRecDepth 100000 in
theorem k_X6_in_yes (l : Launch) (D : va_G) (ca : Nat → ClassId) (N : Nat) (ad : Nat → Nat) (B tR tK : Nat) (f : Nat → va_E) (dd : xD N ad B) (a : Nat) (lo : Nat) (hi : Nat)   (h1 : lo ≤ a) (h2 : a ≤ hi) (h3 : hi < 2 ^ 31) : xMi l yX6_in wsX6_in rmX6_in [.int (nI a), .int (nI lo), .int (nI hi)] D ca N ad B tR tK f (fun r u => nI 1 = r ∧ f = u) := by
  refine x_open (cc := cX6_in) (maxL := 3) (ret := (some .boolean)) (by decide) rfl (Nat.le_of_ble_eq_true rfl) ?_
  intro p e s m below meth c ls hx hb hml hown hts hr hlocks hnm hB hK hE hw hl
  have hown : s.vm.findClass RX6 = some m.cls := hown
  have hl : lv_has ls 3 [(0, .int (nI a)), (1, .int (nI lo)), (2, .int (nI hi))] := hl
  refine lv_iload_n hx hb dX6_in_0 rfl (lv_at hl 0 rfl) ?_
  refine lv_iload_n hx hb dX6_in_1 rfl (lv_at hl 1 rfl) ?_
  refine n_iclt (tgt := 14) hx hb dX6_in_2 (by decide) (by omega) (by omega) (fun c_2 => ?_) (fun c_2 => ?_)
  · omega
  · refine lv_iload_n hx hb dX6_in_5 rfl (lv_at hl 0 rfl) ?_
    refine lv_iload_n hx hb dX6_in_6 rfl (lv_at hl 2 rfl) ?_
    refine n_icgt (tgt := 14) hx hb dX6_in_7 (by decide) (by omega) (by omega) (fun c_7 => ?_) (fun c_7 => ?_)
    · omega
    · refine lv_iconst (v := nI 1) hx hb dX6_in_10 (by decide) ?_
      refine lv_goto (tgt := 15) hx hb dX6_in_11 (by decide) ?_
      exact x_zret hx hb hr hlocks hw (by first | exact Or.inl rfl | exact Or.inr rfl) ⟨rfl, rfl⟩ dX6_in_15

set_option maxHeartbeats 4000000 in
set_option maxRecDepth 100000 in
theorem k_X6_in_no (l : Launch) (D : va_G) (ca : Nat → ClassId) (N : Nat) (ad : Nat → Nat) (B tR tK : Nat) (f : Nat → va_E) (dd : xD N ad B) (x : Int32) (y : Int32) (w : Int32)   (ho : x < y ∨ w < x) : xMi l yX6_in wsX6_in rmX6_in [.int x, .int y, .int w] D ca N ad B tR tK f (fun r u => nI 0 = r ∧ f = u) := by
  refine x_open (cc := cX6_in) (maxL := 3) (ret := (some .boolean)) (by decide) rfl (Nat.le_of_ble_eq_true rfl) ?_
  intro p e s m below meth c ls hx hb hml hown hts hr hlocks hnm hB hK hE hw hl
  have hown : s.vm.findClass RX6 = some m.cls := hown
  have hl : lv_has ls 3 [(0, .int x), (1, .int y), (2, .int w)] := hl
  refine lv_iload_n hx hb dX6_in_0 rfl (lv_at hl 0 rfl) ?_
  refine lv_iload_n hx hb dX6_in_1 rfl (lv_at hl 1 rfl) ?_
  refine lv_icmp_lt (tgt := 14) hx hb dX6_in_2 (by decide) (fun c_2 => ?_) (fun c_2 => ?_)
  · refine lv_iconst (v := nI 0) hx hb dX6_in_14 (by decide) ?_
    exact x_zret hx hb hr hlocks hw (by first | exact Or.inl rfl | exact Or.inr rfl) ⟨rfl, rfl⟩ dX6_in_15
  · refine lv_iload_n hx hb dX6_in_5 rfl (lv_at hl 0 rfl) ?_
    refine lv_iload_n hx hb dX6_in_6 rfl (lv_at hl 2 rfl) ?_
    refine lv_icmp_gt (tgt := 14) hx hb dX6_in_7 (by decide) (fun c_7 => ?_) (fun c_7 => ?_)
    · refine lv_iconst (v := nI 0) hx hb dX6_in_14 (by decide) ?_
      exact x_zret hx hb hr hlocks hw (by first | exact Or.inl rfl | exact Or.inr rfl) ⟨rfl, rfl⟩ dX6_in_15
    · exact absurd ho (fun z => z.elim c_2 c_7)

abbrev rmX6_turned : Room := { frames := 0, cells := 0, slots := 0, locals := 0 }

set_option maxHeartbeats 4000000 in
set_option maxRecDepth 100000 in
theorem k_X6_turned (l : Launch) (D : va_G) (ca : Nat → ClassId) (N : Nat) (ad : Nat → Nat) (B tR tK : Nat) (f : Nat → va_E) (dd : xD N ad B) (x : Int32) (k : Nat)   (hk : k ≤ 32) : xMi l yX6_turned wsX6_turned rmX6_turned [.int x, .int (nI k)] D ca N ad B tR tK f (fun r u => rot x k = r ∧ f = u) := by
  refine x_open (cc := cX6_turned) (maxL := 2) (ret := (some .int)) (by decide) rfl (Nat.le_of_ble_eq_true rfl) ?_
  intro p e s m below meth c ls hx hb hml hown hts hr hlocks hnm hB hK hE hw hl
  have hown : s.vm.findClass RX6 = some m.cls := hown
  have hl : lv_has ls 2 [(0, .int x), (1, .int (nI k))] := hl
  refine lv_iload_n hx hb dX6_turned_0 rfl (lv_at hl 0 rfl) ?_
  refine lv_iload_n hx hb dX6_turned_1 rfl (lv_at hl 1 rfl) ?_
  refine n_iushr hx hb dX6_turned_2 ?_
  refine lv_iload_n hx hb dX6_turned_3 rfl (lv_at hl 0 rfl) ?_
  refine lv_bipush (v := nI 32) hx hb dX6_turned_4 (by decide) ?_
  refine lv_iload_n hx hb dX6_turned_6 rfl (lv_at hl 1 rfl) ?_
  refine n_isub hx hb dX6_turned_7 (by omega) ?_
  refine lv_ishl hx hb dX6_turned_8 ?_
  refine lv_ior hx hb dX6_turned_9 ?_
  exact x_iret hx hb hr hlocks hw ⟨rfl, rfl⟩ dX6_turned_10

abbrev rmX6_mixed : Room := { frames := 1, cells := 0, slots := 0, locals := 21 }

set_option maxHeartbeats 4000000 in
set_option maxRecDepth 100000 in
theorem k_X6_mixed (l : Launch) (D : va_G) (ca : Nat → ClassId) (N : Nat) (ad : Nat → Nat) (B tR tK : Nat) (f : Nat → va_E) (dd : xD N ad B) (x : Int32) (a : Nat) (b : Nat) (d : Nat)   (ha : a ≤ 32) (hb8 : b ≤ 32) (hd : d ≤ 32) : xMi l yX6_mixed wsX6_mixed rmX6_mixed [.int x, .int (nI a), .int (nI b), .int (nI d)] D ca N ad B tR tK f (fun r u => rot x a ^^^ rot x b ^^^ rot x d = r ∧ f = u) := by
  refine x_open (cc := cX6_mixed) (maxL := 4) (ret := (some .int)) (by decide) rfl (Nat.le_of_ble_eq_true rfl) ?_
  intro p e s m below meth c ls hx hb hml hown hts hr hlocks hnm hB hK hE hw hl
  have hown : s.vm.findClass RX6 = some m.cls := hown
  have hl : lv_has ls 4 [(0, .int x), (1, .int (nI a)), (2, .int (nI b)), (3, .int (nI d))] := hl
  refine lv_iload_n hx hb dX6_mixed_0 rfl (lv_at hl 0 rfl) ?_
  refine lv_iload_n hx hb dX6_mixed_1 rfl (lv_at hl 1 rfl) ?_
  refine x_Si (As := [.int x, .int (nI a)]) (rest := []) ⟨hx, hb, hml, hown, hts⟩ (k_X6_turned l D ca N ad B tR tK f dd x a   (by omega)) (va_cwS 2 hts gX6_mixed_X6_turned rfl rfl rfl (by decide +kernel) ⟨Nat.le_of_ble_eq_true rfl, Nat.le_of_ble_eq_true rfl⟩) hK hE hB hw rfl rfl hl.1 (Nat.le_of_ble_eq_true rfl) ⟨Nat.zero_le _, Nat.zero_le _⟩ dX6_mixed_2 (fun r_2 f_1 H locs hp hw => ?_)
  obtain ⟨er, eu⟩ := hp
  rw [← er]
  rw [← eu] at hw
  refine lv_iload_n hx hb dX6_mixed_5 rfl (lv_at hl 0 rfl) ?_
  refine lv_iload_n hx hb dX6_mixed_6 rfl (lv_at hl 2 rfl) ?_
  refine x_Si (As := [.int x, .int (nI b)]) (rest := [.int (rot x a)]) ⟨hx, hb, hml, hown, hts⟩ (k_X6_turned l D ca N ad B tR tK f dd x b   (by omega)) (va_cwS 2 hts gX6_mixed_X6_turned rfl rfl rfl (by decide +kernel) ⟨Nat.le_of_ble_eq_true rfl, Nat.le_of_ble_eq_true rfl⟩) hK hE hB hw rfl rfl hl.1 (Nat.le_of_ble_eq_true rfl) ⟨Nat.zero_le _, Nat.zero_le _⟩ dX6_mixed_7 (fun r_4 f_3 H locs hp hw => ?_)
  obtain ⟨er, eu⟩ := hp
  rw [← er]
  rw [← eu] at hw
  refine lv_ixor hx hb dX6_mixed_10 ?_
  refine lv_iload_n hx hb dX6_mixed_11 rfl (lv_at hl 0 rfl) ?_
  refine lv_iload_n hx hb dX6_mixed_12 rfl (lv_at hl 3 rfl) ?_
  refine x_Si (As := [.int x, .int (nI d)]) (rest := [.int ((rot x a) ^^^ (rot x b))]) ⟨hx, hb, hml, hown, hts⟩ (k_X6_turned l D ca N ad B tR tK f dd x d   (by omega)) (va_cwS 2 hts gX6_mixed_X6_turned rfl rfl rfl (by decide +kernel) ⟨Nat.le_of_ble_eq_true rfl, Nat.le_of_ble_eq_true rfl⟩) hK hE hB hw rfl rfl hl.1 (Nat.le_of_ble_eq_true rfl) ⟨Nat.zero_le _, Nat.zero_le _⟩ dX6_mixed_13 (fun r_6 f_5 H locs hp hw => ?_)
  obtain ⟨er, eu⟩ := hp
  rw [← er]
  rw [← eu] at hw
  refine lv_ixor hx hb dX6_mixed_16 ?_
  exact x_iret hx hb hr hlocks hw ⟨rfl, rfl⟩ dX6_mixed_17

abbrev rmX6_block : Room := { frames := 2, cells := 0, slots := 0, locals := 44 }

set_option maxHeartbeats 4000000 in
set_option maxRecDepth 100000 in
theorem k_X6_block (l : Launch) (D : va_G) (ca : Nat → ClassId) (N : Nat) (ad : Nat → Nat) (B tR tK : Nat) (f : Nat → va_E) (dd : xD N ad B) (th : Nat) (cap : Nat) (cl : Nat) (fs : Nat) (wk : Int32) (td : Nat) (rw : Nat) (sh : Nat) (fi : Nat) (bf : Nat → Int32) (ww : Nat → Int32) (hh : Nat → Int32) (vv : Nat → Int32) (fr : Nat) (c_302 : f 302 = .inr (7, mO ad th cap cl fs wk td rw sh fi)) (c_319 : f 319 = ai (ca 1) 320 bf) (c_321 : f 321 = ai (ca 0) 64 ww) (c_322 : f 322 = ai (ca 0) 8 hh) (c_323 : f 323 = ai (ca 0) 8 vv) (c_325 : f 325 = ai (ca 0) 64 shK)  (hN : 326 ≤ N) (hf : fr + 64 ≤ 320) : xMv l yX6_block wsX6_block rmX6_block [.ref (ad 302), .int (nI fr)] D ca N ad B tR tK f (fun u => u = va_up (va_up (va_up f 321 (ai (ca 0) 64 (wM ww bf fr 64))) 323 (ai (ca 0) 8 (rd hh (wM ww bf fr 64) 64))) 322 (ai (ca 0) 8 (mixTo hh (rd hh (wM ww bf fr 64) 64) 8))) := by
  refine x_open (cc := cX6_block) (maxL := 6) (ret := none) (by decide) rfl (Nat.le_of_ble_eq_true rfl) ?_
  intro p e s m below meth c ls hx hb hml hown hts hr hlocks hnm hB hK hE hw hl
  have hown : s.vm.findClass RX6 = some m.cls := hown
  have hl : lv_has ls 6 [(0, .ref (ad 302)), (1, .int (nI fr))] := hl
  have hin_7 : ∀ w ∈ u_ws RX6 TX6 32, w ∈ wsX6_block := by decide +kernel
  have hf_73 := hts (.fieldLink RX6 73 "FixityRowsModel" "h" "[I") (by decide +kernel)
  have hf_76 := hts (.fieldLink RX6 76 "FixityRowsModel" "v" "[I") (by decide +kernel)
  have hf_154 := hts (.fieldLink RX6 154 "FixityRowsModel" "adds" "[I") (by decide +kernel)
  have hf_70 := hts (.fieldLink RX6 70 "FixityRowsModel" "w" "[I") (by decide +kernel)
  have hf_64 := hts (.fieldLink RX6 64 "FixityRowsModel" "buffer" "[B") (by decide +kernel)
  have b_302 := c_302
  have b_319 := c_319
  have b_321 := c_321
  have b_322 := c_322
  have b_323 := c_323
  have b_325 := c_325
  have P_398 : ∀ (n_398 : Nat) (i : Nat) (H : Heap) (locs : List Loc) (ls : Array Slot), 8 + 1 ≤ i + n_398 → (i ≤ 8) → xw D vwCl N ad B s.heap (va_up (va_up (va_up f 321 (ai (ca 0) 64 (wM ww bf fr 64))) 323 (ai (ca 0) 8 (rd hh (wM ww bf fr 64) 64))) 322 (ai (ca 0) 8 (mixTo hh (rd hh (wM ww bf fr 64) 64) i))) H locs → lv_has ls 6 [(0, .ref (ad 302)), (1, .int (nI fr)), (2, .int (nI i))] → W p l e rmX6_block s m ([.ref (ad 302), .int (nI fr)] : List Value).toArray below meth c H locs 0 0 (MQ below (xQv (fun u => u = va_up (va_up (va_up f 321 (ai (ca 0) 64 (wM ww bf fr 64))) 323 (ai (ca 0) 8 (rd hh (wM ww bf fr 64) 64))) 322 (ai (ca 0) 8 (mixTo hh (rd hh (wM ww bf fr 64) 64) 8))) D N ad B) ([.ref (ad 302), .int (nI fr)] : List Value).toArray s 0 0 (xA B)) (F0 m 398 ls []) := by
    intro n_398
    induction n_398 with
    | zero =>
      intro i H locs ls hm_398 hi hw hl
      exact absurd hm_398 (by omega)
    | succ n_398 ih_398 =>
      intro i H locs ls hm_398 hi hw hl
      have c_302 := b_302
      have c_319 := b_319
      have c_321 := b_321
      have c_322 := b_322
      have c_323 := b_323
      have c_325 := b_325
      obtain ⟨f_1, ef_1⟩ : ∃ z, z = va_up (va_up (va_up f 321 (ai (ca 0) 64 (wM ww bf fr 64))) 323 (ai (ca 0) 8 (rd hh (wM ww bf fr 64) 64))) 322 (ai (ca 0) 8 (mixTo hh (rd hh (wM ww bf fr 64) 64) i)) := ⟨_, rfl⟩
      have hw : xw D vwCl N ad B s.heap f_1 H locs := by rw [ef_1]; exact hw
      have c_321 : f_1 321 = ai (ca 0) 64 (wM ww bf fr 64) := by rw [ef_1, va_up_ne _ _ (by decide), va_up_ne _ _ (by decide), va_up_self]
      have c_323 : f_1 323 = ai (ca 0) 8 (rd hh (wM ww bf fr 64) 64) := by rw [ef_1, va_up_ne _ _ (by decide), va_up_self]
      have c_322 : f_1 322 = ai (ca 0) 8 (mixTo hh (rd hh (wM ww bf fr 64) 64) i) := by rw [ef_1, va_up_self]
      refine lv_iload_n hx hb dX6_block_398 rfl (lv_at hl 2 rfl) ?_
      refine lv_bipush (v := nI 8) hx hb dX6_block_399 (by decide) ?_
      refine n_icge (tgt := 425) hx hb dX6_block_401 (by decide) (by omega) (by omega) (fun c_401 => ?_) (fun c_401 => ?_)
      · exact x_vret hx hb hr hlocks hw (by have ei : i = 8 := (by omega); subst ei; simp only [ef_1]) dX6_block_425
      · refine lv_aload_n hx hb dX6_block_404 rfl (lv_at hl 0 rfl) ?_
        have c_302 : f_1 302 = .inr (7, mO ad th cap cl fs wk td rw sh fi) := by rw [ef_1, va_up_ne _ _ (by decide), va_up_ne _ _ (by decide), va_up_ne _ _ (by decide)]; exact c_302
        refine x_get (ci := 7) (C := RX6) (T := TX6) (n := 32) (ref := RX6) hx hb hts hin_7 hown hK hw 302 (by omega) c_302 rfl 28 (by decide) hf_73 (fun _ h => h) rfl dX6_block_405 ?_
        refine lv_iload_n hx hb dX6_block_408 rfl (lv_at hl 2 rfl) ?_
        refine lv_dup2_11 hx hb dX6_block_409 rfl rfl ?_
        refine x_iald (j := i) hx hb hK hw 322 0 (by omega) c_322 rfl rfl (by omega) (by decide) dX6_block_410 ?_
        refine lv_aload_n hx hb dX6_block_411 rfl (lv_at hl 0 rfl) ?_
        refine x_get (ci := 7) (C := RX6) (T := TX6) (n := 32) (ref := RX6) hx hb hts hin_7 hown hK hw 302 (by omega) c_302 rfl 29 (by decide) hf_76 (fun _ h => h) rfl dX6_block_412 ?_
        refine lv_iload_n hx hb dX6_block_415 rfl (lv_at hl 2 rfl) ?_
        refine x_iald (j := i) hx hb hK hw 323 0 (by omega) c_323 rfl rfl (by omega) (by decide) dX6_block_416 ?_
        refine lv_iadd hx hb dX6_block_417 ?_
        refine lv_topi (fun x_2 ex_2 => ?_)
        refine x_iast (j := i) hx hb hK dd hw 322 0 (by omega) c_322 rfl rfl (by omega) (by decide) dX6_block_418 (fun H locs hw => ?_)
        obtain ⟨f_3, ef_3⟩ : ∃ z, z = va_up f_1 322 (ai (ca 0) 8 (upd (mixTo hh (rd hh (wM ww bf fr 64) 64) i) i x_2)) := ⟨_, rfl⟩
        have hw : xw D vwCl N ad B s.heap f_3 H locs := by rw [ef_3]; exact hw
        have c_322 : f_3 322 = ai (ca 0) 8 (upd (mixTo hh (rd hh (wM ww bf fr 64) 64) i) i x_2) := va_up_of ef_3
        refine lv_iinc (v := nI (i + 1)) (lv' := [(2, .int (nI (i + 1))), (0, .ref (ad 302)), (1, .int (nI fr))]) hx hb dX6_block_419 hl (k := 2) rfl (by rw [show Int32.ofInt 1 = nI 1 from rfl]; exact nI_add _ _) (by decide) rfl (fun ls hl => ?_)
        refine lv_goto (tgt := 398) hx hb dX6_block_422 (by decide) ?_
        have hw : xw D vwCl N ad B s.heap (va_up (va_up (va_up f 321 (ai (ca 0) 64 (wM ww bf fr 64))) 323 (ai (ca 0) 8 (rd hh (wM ww bf fr 64) 64))) 322 (ai (ca 0) 8 (mixTo hh (rd hh (wM ww bf fr 64) 64) (i + 1)))) H locs := by
          have ez : f_3 = va_up (va_up (va_up f 321 (ai (ca 0) 64 (wM ww bf fr 64))) 323 (ai (ca 0) 8 (rd hh (wM ww bf fr 64) 64))) 322 (ai (ca 0) 8 (mixTo hh (rd hh (wM ww bf fr 64) 64) (i + 1))) := by simp only [ef_3, ex_2, ef_1, up_aa]; rfl
          rw [← ez]; exact hw
        exact ih_398 (i + 1) _ _ _ (by omega) (by omega) hw (lv_sub hl [1, 2, 0] rfl)
  have P_206 : ∀ (n_206 : Nat) (i : Nat) (H : Heap) (locs : List Loc) (ls : Array Slot), 64 + 1 ≤ i + n_206 → (i ≤ 64) → xw D vwCl N ad B s.heap (va_up (va_up f 321 (ai (ca 0) 64 (wM ww bf fr 64))) 323 (ai (ca 0) 8 (rd hh (wM ww bf fr 64) i))) H locs → lv_has ls 6 [(0, .ref (ad 302)), (1, .int (nI fr)), (2, .int (nI i))] → W p l e rmX6_block s m ([.ref (ad 302), .int (nI fr)] : List Value).toArray below meth c H locs 0 0 (MQ below (xQv (fun u => u = va_up (va_up (va_up f 321 (ai (ca 0) 64 (wM ww bf fr 64))) 323 (ai (ca 0) 8 (rd hh (wM ww bf fr 64) 64))) 322 (ai (ca 0) 8 (mixTo hh (rd hh (wM ww bf fr 64) 64) 8))) D N ad B) ([.ref (ad 302), .int (nI fr)] : List Value).toArray s 0 0 (xA B)) (F0 m 206 ls []) := by
    intro n_206
    induction n_206 with
    | zero =>
      intro i H locs ls hm_206 hi hw hl
      exact absurd hm_206 (by omega)
    | succ n_206 ih_206 =>
      intro i H locs ls hm_206 hi hw hl
      have c_302 := b_302
      have c_319 := b_319
      have c_321 := b_321
      have c_322 := b_322
      have c_323 := b_323
      have c_325 := b_325
      obtain ⟨f_4, ef_4⟩ : ∃ z, z = va_up (va_up f 321 (ai (ca 0) 64 (wM ww bf fr 64))) 323 (ai (ca 0) 8 (rd hh (wM ww bf fr 64) i)) := ⟨_, rfl⟩
      have hw : xw D vwCl N ad B s.heap f_4 H locs := by rw [ef_4]; exact hw
      have c_321 : f_4 321 = ai (ca 0) 64 (wM ww bf fr 64) := by rw [ef_4, va_up_ne _ _ (by decide), va_up_self]
      have c_323 : f_4 323 = ai (ca 0) 8 (rd hh (wM ww bf fr 64) i) := by rw [ef_4, va_up_self]
      refine lv_iload_n hx hb dX6_block_206 rfl (lv_at hl 2 rfl) ?_
      refine lv_bipush (v := nI 64) hx hb dX6_block_207 (by decide) ?_
      refine n_icge (tgt := 396) hx hb dX6_block_209 (by decide) (by omega) (by omega) (fun c_209 => ?_) (fun c_209 => ?_)
      · refine lv_iconst (v := nI 0) hx hb dX6_block_396 (by decide) ?_
        refine lv_istore_n (lv' := [(2, .int (nI 0)), (0, .ref (ad 302)), (1, .int (nI fr))]) hx hb dX6_block_397 rfl hl (by decide) rfl (fun ls hl => ?_)
        have hw : xw D vwCl N ad B s.heap (va_up (va_up (va_up f 321 (ai (ca 0) 64 (wM ww bf fr 64))) 323 (ai (ca 0) 8 (rd hh (wM ww bf fr 64) 64))) 322 (ai (ca 0) 8 (mixTo hh (rd hh (wM ww bf fr 64) 64) 0))) H locs := by
          have ez : f_4 = va_up (va_up (va_up f 321 (ai (ca 0) 64 (wM ww bf fr 64))) 323 (ai (ca 0) 8 (rd hh (wM ww bf fr 64) 64))) 322 (ai (ca 0) 8 (mixTo hh (rd hh (wM ww bf fr 64) 64) 0)) := by have ei : i = 64 := (by omega); subst ei; rw [ef_4]; show _ = va_up (va_up (va_up f 321 _) 323 _) 322 (ai (ca 0) 8 hh); rw [← b_322, ← va_up_ne f (ai (ca 0) 64 (wM ww bf fr 64)) (show 322 ≠ 321 by decide), ← va_up_ne (va_up f 321 (ai (ca 0) 64 (wM ww bf fr 64))) (ai (ca 0) 8 (rd hh (wM ww bf fr 64) 64)) (show 322 ≠ 323 by decide), up_same]
          rw [← ez]; exact hw
        exact P_398 9 0 _ _ _ (by omega) (by omega) hw (lv_sub hl [1, 2, 0] rfl)
      · refine lv_aload_n hx hb dX6_block_212 rfl (lv_at hl 0 rfl) ?_
        have c_302 : f_4 302 = .inr (7, mO ad th cap cl fs wk td rw sh fi) := by rw [ef_4, va_up_ne _ _ (by decide), va_up_ne _ _ (by decide)]; exact c_302
        refine x_get (ci := 7) (C := RX6) (T := TX6) (n := 32) (ref := RX6) hx hb hts hin_7 hown hK hw 302 (by omega) c_302 rfl 29 (by decide) hf_76 (fun _ h => h) rfl dX6_block_213 ?_
        refine lv_bipush (v := nI 7) hx hb dX6_block_216 (by decide) ?_
        refine x_iald (j := 7) hx hb hK hw 323 0 (by omega) c_323 rfl rfl (by omega) (by decide) dX6_block_218 ?_
        refine lv_aload_n hx hb dX6_block_219 rfl (lv_at hl 0 rfl) ?_
        refine x_get (ci := 7) (C := RX6) (T := TX6) (n := 32) (ref := RX6) hx hb hts hin_7 hown hK hw 302 (by omega) c_302 rfl 29 (by decide) hf_76 (fun _ h => h) rfl dX6_block_220 ?_
        refine lv_iconst (v := nI 4) hx hb dX6_block_223 (by decide) ?_
        refine x_iald (j := 4) hx hb hK hw 323 0 (by omega) c_323 rfl rfl (by omega) (by decide) dX6_block_224 ?_
        refine lv_bipush (v := nI 6) hx hb dX6_block_225 (by decide) ?_
        refine lv_bipush (v := nI 11) hx hb dX6_block_227 (by decide) ?_
        refine lv_bipush (v := nI 25) hx hb dX6_block_229 (by decide) ?_
        refine x_Si (As := [.int ((rd hh (wM ww bf fr 64) i) 4), .int (nI 6), .int (nI 11), .int (nI 25)]) (rest := [.int ((rd hh (wM ww bf fr 64) i) 7)]) ⟨hx, hb, hml, hown, hts⟩ (k_X6_mixed l D ca N ad B tR tK f_4 dd ((rd hh (wM ww bf fr 64) i) 4) 6 11 25   (by omega) (by omega) (by omega)) (va_cwS 4 hts gX6_block_X6_mixed rfl rfl rfl (by decide +kernel) ⟨Nat.le_of_ble_eq_true rfl, Nat.le_of_ble_eq_true rfl⟩) hK hE hB hw rfl rfl hl.1 (Nat.le_of_ble_eq_true rfl) ⟨Nat.zero_le _, Nat.zero_le _⟩ dX6_block_231 (fun r_6 f_5 H locs hp hw => ?_)
        obtain ⟨er, eu⟩ := hp
        rw [← er]
        rw [← eu] at hw
        refine lv_iadd hx hb dX6_block_234 ?_
        refine lv_aload_n hx hb dX6_block_235 rfl (lv_at hl 0 rfl) ?_
        refine x_get (ci := 7) (C := RX6) (T := TX6) (n := 32) (ref := RX6) hx hb hts hin_7 hown hK hw 302 (by omega) c_302 rfl 29 (by decide) hf_76 (fun _ h => h) rfl dX6_block_236 ?_
        refine lv_iconst (v := nI 4) hx hb dX6_block_239 (by decide) ?_
        refine x_iald (j := 4) hx hb hK hw 323 0 (by omega) c_323 rfl rfl (by omega) (by decide) dX6_block_240 ?_
        refine lv_aload_n hx hb dX6_block_241 rfl (lv_at hl 0 rfl) ?_
        refine x_get (ci := 7) (C := RX6) (T := TX6) (n := 32) (ref := RX6) hx hb hts hin_7 hown hK hw 302 (by omega) c_302 rfl 29 (by decide) hf_76 (fun _ h => h) rfl dX6_block_242 ?_
        refine lv_iconst (v := nI 5) hx hb dX6_block_245 (by decide) ?_
        refine x_iald (j := 5) hx hb hK hw 323 0 (by omega) c_323 rfl rfl (by omega) (by decide) dX6_block_246 ?_
        refine lv_iand hx hb dX6_block_247 ?_
        refine lv_aload_n hx hb dX6_block_248 rfl (lv_at hl 0 rfl) ?_
        refine x_get (ci := 7) (C := RX6) (T := TX6) (n := 32) (ref := RX6) hx hb hts hin_7 hown hK hw 302 (by omega) c_302 rfl 29 (by decide) hf_76 (fun _ h => h) rfl dX6_block_249 ?_
        refine lv_iconst (v := nI 4) hx hb dX6_block_252 (by decide) ?_
        refine x_iald (j := 4) hx hb hK hw 323 0 (by omega) c_323 rfl rfl (by omega) (by decide) dX6_block_253 ?_
        refine lv_iconst (v := (-1)) hx hb dX6_block_254 (by decide) ?_
        refine lv_ixor hx hb dX6_block_255 ?_
        refine lv_aload_n hx hb dX6_block_256 rfl (lv_at hl 0 rfl) ?_
        refine x_get (ci := 7) (C := RX6) (T := TX6) (n := 32) (ref := RX6) hx hb hts hin_7 hown hK hw 302 (by omega) c_302 rfl 29 (by decide) hf_76 (fun _ h => h) rfl dX6_block_257 ?_
        refine lv_bipush (v := nI 6) hx hb dX6_block_260 (by decide) ?_
        refine x_iald (j := 6) hx hb hK hw 323 0 (by omega) c_323 rfl rfl (by omega) (by decide) dX6_block_262 ?_
        refine lv_iand hx hb dX6_block_263 ?_
        refine lv_ixor hx hb dX6_block_264 ?_
        refine lv_iadd hx hb dX6_block_265 ?_
        refine lv_aload_n hx hb dX6_block_266 rfl (lv_at hl 0 rfl) ?_
        refine x_get (ci := 7) (C := RX6) (T := TX6) (n := 32) (ref := RX6) hx hb hts hin_7 hown hK hw 302 (by omega) c_302 rfl 31 (by decide) hf_154 (fun _ h => h) rfl dX6_block_267 ?_
        refine lv_iload_n hx hb dX6_block_270 rfl (lv_at hl 2 rfl) ?_
        have c_325 : f_4 325 = ai (ca 0) 64 shK := by rw [ef_4, va_up_ne _ _ (by decide), va_up_ne _ _ (by decide)]; exact c_325
        refine x_iald (j := i) hx hb hK hw 325 0 (by omega) c_325 rfl rfl (by omega) (by decide) dX6_block_271 ?_
        refine lv_iadd hx hb dX6_block_272 ?_
        refine lv_aload_n hx hb dX6_block_273 rfl (lv_at hl 0 rfl) ?_
        refine x_get (ci := 7) (C := RX6) (T := TX6) (n := 32) (ref := RX6) hx hb hts hin_7 hown hK hw 302 (by omega) c_302 rfl 27 (by decide) hf_70 (fun _ h => h) rfl dX6_block_274 ?_
        refine lv_iload_n hx hb dX6_block_277 rfl (lv_at hl 2 rfl) ?_
        refine x_iald (j := i) hx hb hK hw 321 0 (by omega) c_321 rfl rfl (by omega) (by decide) dX6_block_278 ?_
        refine lv_iadd hx hb dX6_block_279 ?_
        refine lv_topi (fun x_7 ex_7 => ?_)
        refine lv_istore_n (lv' := [(3, .int x_7), (0, .ref (ad 302)), (1, .int (nI fr)), (2, .int (nI i))]) hx hb dX6_block_280 rfl hl (by decide) rfl (fun ls hl => ?_)
        refine lv_aload_n hx hb dX6_block_281 rfl (lv_at hl 1 rfl) ?_
        refine x_get (ci := 7) (C := RX6) (T := TX6) (n := 32) (ref := RX6) hx hb hts hin_7 hown hK hw 302 (by omega) c_302 rfl 29 (by decide) hf_76 (fun _ h => h) rfl dX6_block_282 ?_
        refine lv_iconst (v := nI 0) hx hb dX6_block_285 (by decide) ?_
        refine x_iald (j := 0) hx hb hK hw 323 0 (by omega) c_323 rfl rfl (by omega) (by decide) dX6_block_286 ?_
        refine lv_iconst (v := nI 2) hx hb dX6_block_287 (by decide) ?_
        refine lv_bipush (v := nI 13) hx hb dX6_block_288 (by decide) ?_
        refine lv_bipush (v := nI 22) hx hb dX6_block_290 (by decide) ?_
        refine x_Si (As := [.int ((rd hh (wM ww bf fr 64) i) 0), .int (nI 2), .int (nI 13), .int (nI 22)]) (rest := []) ⟨hx, hb, hml, hown, hts⟩ (k_X6_mixed l D ca N ad B tR tK f_4 dd ((rd hh (wM ww bf fr 64) i) 0) 2 13 22   (by omega) (by omega) (by omega)) (va_cwS 4 hts gX6_block_X6_mixed rfl rfl rfl (by decide +kernel) ⟨Nat.le_of_ble_eq_true rfl, Nat.le_of_ble_eq_true rfl⟩) hK hE hB hw rfl rfl hl.1 (Nat.le_of_ble_eq_true rfl) ⟨Nat.zero_le _, Nat.zero_le _⟩ dX6_block_292 (fun r_9 f_8 H locs hp hw => ?_)
        obtain ⟨er, eu⟩ := hp
        rw [← er]
        rw [← eu] at hw
        refine lv_aload_n hx hb dX6_block_295 rfl (lv_at hl 1 rfl) ?_
        refine x_get (ci := 7) (C := RX6) (T := TX6) (n := 32) (ref := RX6) hx hb hts hin_7 hown hK hw 302 (by omega) c_302 rfl 29 (by decide) hf_76 (fun _ h => h) rfl dX6_block_296 ?_
        refine lv_iconst (v := nI 0) hx hb dX6_block_299 (by decide) ?_
        refine x_iald (j := 0) hx hb hK hw 323 0 (by omega) c_323 rfl rfl (by omega) (by decide) dX6_block_300 ?_
        refine lv_aload_n hx hb dX6_block_301 rfl (lv_at hl 1 rfl) ?_
        refine x_get (ci := 7) (C := RX6) (T := TX6) (n := 32) (ref := RX6) hx hb hts hin_7 hown hK hw 302 (by omega) c_302 rfl 29 (by decide) hf_76 (fun _ h => h) rfl dX6_block_302 ?_
        refine lv_iconst (v := nI 1) hx hb dX6_block_305 (by decide) ?_
        refine x_iald (j := 1) hx hb hK hw 323 0 (by omega) c_323 rfl rfl (by omega) (by decide) dX6_block_306 ?_
        refine lv_iand hx hb dX6_block_307 ?_
        refine lv_aload_n hx hb dX6_block_308 rfl (lv_at hl 1 rfl) ?_
        refine x_get (ci := 7) (C := RX6) (T := TX6) (n := 32) (ref := RX6) hx hb hts hin_7 hown hK hw 302 (by omega) c_302 rfl 29 (by decide) hf_76 (fun _ h => h) rfl dX6_block_309 ?_
        refine lv_iconst (v := nI 0) hx hb dX6_block_312 (by decide) ?_
        refine x_iald (j := 0) hx hb hK hw 323 0 (by omega) c_323 rfl rfl (by omega) (by decide) dX6_block_313 ?_
        refine lv_aload_n hx hb dX6_block_314 rfl (lv_at hl 1 rfl) ?_
        refine x_get (ci := 7) (C := RX6) (T := TX6) (n := 32) (ref := RX6) hx hb hts hin_7 hown hK hw 302 (by omega) c_302 rfl 29 (by decide) hf_76 (fun _ h => h) rfl dX6_block_315 ?_
        refine lv_iconst (v := nI 2) hx hb dX6_block_318 (by decide) ?_
        refine x_iald (j := 2) hx hb hK hw 323 0 (by omega) c_323 rfl rfl (by omega) (by decide) dX6_block_319 ?_
        refine lv_iand hx hb dX6_block_320 ?_
        refine lv_ixor hx hb dX6_block_321 ?_
        refine lv_aload_n hx hb dX6_block_322 rfl (lv_at hl 1 rfl) ?_
        refine x_get (ci := 7) (C := RX6) (T := TX6) (n := 32) (ref := RX6) hx hb hts hin_7 hown hK hw 302 (by omega) c_302 rfl 29 (by decide) hf_76 (fun _ h => h) rfl dX6_block_323 ?_
        refine lv_iconst (v := nI 1) hx hb dX6_block_326 (by decide) ?_
        refine x_iald (j := 1) hx hb hK hw 323 0 (by omega) c_323 rfl rfl (by omega) (by decide) dX6_block_327 ?_
        refine lv_aload_n hx hb dX6_block_328 rfl (lv_at hl 1 rfl) ?_
        refine x_get (ci := 7) (C := RX6) (T := TX6) (n := 32) (ref := RX6) hx hb hts hin_7 hown hK hw 302 (by omega) c_302 rfl 29 (by decide) hf_76 (fun _ h => h) rfl dX6_block_329 ?_
        refine lv_iconst (v := nI 2) hx hb dX6_block_332 (by decide) ?_
        refine x_iald (j := 2) hx hb hK hw 323 0 (by omega) c_323 rfl rfl (by omega) (by decide) dX6_block_333 ?_
        refine lv_iand hx hb dX6_block_334 ?_
        refine lv_ixor hx hb dX6_block_335 ?_
        refine lv_iadd hx hb dX6_block_336 ?_
        refine lv_topi (fun x_10 ex_10 => ?_)
        refine lv_istore (lv' := [(4, .int x_10), (3, .int x_7), (0, .ref (ad 302)), (1, .int (nI fr)), (2, .int (nI i))]) hx hb dX6_block_337 hl (by decide) rfl (fun ls hl => ?_)
        refine lv_bipush (v := nI 7) hx hb dX6_block_339 (by decide) ?_
        refine lv_istore (lv' := [(5, .int (nI 7)), (4, .int x_10), (3, .int x_7), (0, .ref (ad 302)), (1, .int (nI fr)), (2, .int (nI i))]) hx hb dX6_block_341 hl (by decide) rfl (fun ls hl => ?_)
        refine lv_iload hx hb dX6_block_343 (lv_at hl 0 rfl) ?_
        refine lv_if_le (tgt := 370) hx hb dX6_block_345 (by decide) (fun h => absurd h (by decide)) (fun _ => ?_)
        refine lv_aload_n hx hb dX6_block_348 rfl (lv_at hl 3 rfl) ?_
        refine x_get (ci := 7) (C := RX6) (T := TX6) (n := 32) (ref := RX6) hx hb hts hin_7 hown hK hw 302 (by omega) c_302 rfl 29 (by decide) hf_76 (fun _ h => h) rfl dX6_block_349 ?_
        refine lv_iload hx hb dX6_block_352 (lv_at hl 0 rfl) ?_
        refine lv_aload_n hx hb dX6_block_354 rfl (lv_at hl 3 rfl) ?_
        refine x_get (ci := 7) (C := RX6) (T := TX6) (n := 32) (ref := RX6) hx hb hts hin_7 hown hK hw 302 (by omega) c_302 rfl 29 (by decide) hf_76 (fun _ h => h) rfl dX6_block_355 ?_
        refine lv_iload hx hb dX6_block_358 (lv_at hl 0 rfl) ?_
        refine lv_iconst (v := nI 1) hx hb dX6_block_360 (by decide) ?_
        refine n_isub hx hb dX6_block_361 (by omega) ?_
        refine x_iald (j := 7 - 1) hx hb hK hw 323 0 (by omega) c_323 rfl rfl (by omega) (by decide) dX6_block_362 ?_
        refine lv_topi (fun x_11 ex_11 => ?_)
        refine x_iast (j := 7) hx hb hK dd hw 323 0 (by omega) c_323 rfl rfl (by omega) (by decide) dX6_block_363 (fun H locs hw => ?_)
        obtain ⟨f_12, ef_12⟩ : ∃ z, z = va_up f_4 323 (ai (ca 0) 8 (upd (rd hh (wM ww bf fr 64) i) 7 x_11)) := ⟨_, rfl⟩
        have hw : xw D vwCl N ad B s.heap f_12 H locs := by rw [ef_12]; exact hw
        have c_323 : f_12 323 = ai (ca 0) 8 (upd (rd hh (wM ww bf fr 64) i) 7 x_11) := va_up_of ef_12
        refine lv_iinc (v := nI 6) (lv' := [(5, .int (nI 6)), (4, .int x_10), (3, .int x_7), (0, .ref (ad 302)), (1, .int (nI fr)), (2, .int (nI i))]) hx hb dX6_block_364 hl (k := 0) rfl (by decide) (by decide) rfl (fun ls hl => ?_)
        refine lv_goto (tgt := 343) hx hb dX6_block_367 (by decide) ?_
        refine lv_iload hx hb dX6_block_343 (lv_at hl 0 rfl) ?_
        refine lv_if_le (tgt := 370) hx hb dX6_block_345 (by decide) (fun h => absurd h (by decide)) (fun _ => ?_)
        refine lv_aload_n hx hb dX6_block_348 rfl (lv_at hl 3 rfl) ?_
        have c_302 : f_12 302 = .inr (7, mO ad th cap cl fs wk td rw sh fi) := by rw [ef_12, va_up_ne _ _ (by decide)]; exact c_302
        refine x_get (ci := 7) (C := RX6) (T := TX6) (n := 32) (ref := RX6) hx hb hts hin_7 hown hK hw 302 (by omega) c_302 rfl 29 (by decide) hf_76 (fun _ h => h) rfl dX6_block_349 ?_
        refine lv_iload hx hb dX6_block_352 (lv_at hl 0 rfl) ?_
        refine lv_aload_n hx hb dX6_block_354 rfl (lv_at hl 3 rfl) ?_
        refine x_get (ci := 7) (C := RX6) (T := TX6) (n := 32) (ref := RX6) hx hb hts hin_7 hown hK hw 302 (by omega) c_302 rfl 29 (by decide) hf_76 (fun _ h => h) rfl dX6_block_355 ?_
        refine lv_iload hx hb dX6_block_358 (lv_at hl 0 rfl) ?_
        refine lv_iconst (v := nI 1) hx hb dX6_block_360 (by decide) ?_
        refine n_isub hx hb dX6_block_361 (by omega) ?_
        refine x_iald (j := 6 - 1) hx hb hK hw 323 0 (by omega) c_323 rfl rfl (by omega) (by decide) dX6_block_362 ?_
        refine lv_topi (fun x_13 ex_13 => ?_)
        refine x_iast (j := 6) hx hb hK dd hw 323 0 (by omega) c_323 rfl rfl (by omega) (by decide) dX6_block_363 (fun H locs hw => ?_)
        obtain ⟨f_14, ef_14⟩ : ∃ z, z = va_up f_12 323 (ai (ca 0) 8 (upd (upd (rd hh (wM ww bf fr 64) i) 7 x_11) 6 x_13)) := ⟨_, rfl⟩
        have hw : xw D vwCl N ad B s.heap f_14 H locs := by rw [ef_14]; exact hw
        have c_323 : f_14 323 = ai (ca 0) 8 (upd (upd (rd hh (wM ww bf fr 64) i) 7 x_11) 6 x_13) := va_up_of ef_14
        refine lv_iinc (v := nI 5) (lv' := [(5, .int (nI 5)), (4, .int x_10), (3, .int x_7), (0, .ref (ad 302)), (1, .int (nI fr)), (2, .int (nI i))]) hx hb dX6_block_364 hl (k := 0) rfl (by decide) (by decide) rfl (fun ls hl => ?_)
        refine lv_goto (tgt := 343) hx hb dX6_block_367 (by decide) ?_
        refine lv_iload hx hb dX6_block_343 (lv_at hl 0 rfl) ?_
        refine lv_if_le (tgt := 370) hx hb dX6_block_345 (by decide) (fun h => absurd h (by decide)) (fun _ => ?_)
        refine lv_aload_n hx hb dX6_block_348 rfl (lv_at hl 3 rfl) ?_
        have c_302 : f_14 302 = .inr (7, mO ad th cap cl fs wk td rw sh fi) := by rw [ef_14, va_up_ne _ _ (by decide)]; exact c_302
        refine x_get (ci := 7) (C := RX6) (T := TX6) (n := 32) (ref := RX6) hx hb hts hin_7 hown hK hw 302 (by omega) c_302 rfl 29 (by decide) hf_76 (fun _ h => h) rfl dX6_block_349 ?_
        refine lv_iload hx hb dX6_block_352 (lv_at hl 0 rfl) ?_
        refine lv_aload_n hx hb dX6_block_354 rfl (lv_at hl 3 rfl) ?_
        refine x_get (ci := 7) (C := RX6) (T := TX6) (n := 32) (ref := RX6) hx hb hts hin_7 hown hK hw 302 (by omega) c_302 rfl 29 (by decide) hf_76 (fun _ h => h) rfl dX6_block_355 ?_
        refine lv_iload hx hb dX6_block_358 (lv_at hl 0 rfl) ?_
        refine lv_iconst (v := nI 1) hx hb dX6_block_360 (by decide) ?_
        refine n_isub hx hb dX6_block_361 (by omega) ?_
        refine x_iald (j := 5 - 1) hx hb hK hw 323 0 (by omega) c_323 rfl rfl (by omega) (by decide) dX6_block_362 ?_
        refine lv_topi (fun x_15 ex_15 => ?_)
        refine x_iast (j := 5) hx hb hK dd hw 323 0 (by omega) c_323 rfl rfl (by omega) (by decide) dX6_block_363 (fun H locs hw => ?_)
        obtain ⟨f_16, ef_16⟩ : ∃ z, z = va_up f_14 323 (ai (ca 0) 8 (upd (upd (upd (rd hh (wM ww bf fr 64) i) 7 x_11) 6 x_13) 5 x_15)) := ⟨_, rfl⟩
        have hw : xw D vwCl N ad B s.heap f_16 H locs := by rw [ef_16]; exact hw
        have c_323 : f_16 323 = ai (ca 0) 8 (upd (upd (upd (rd hh (wM ww bf fr 64) i) 7 x_11) 6 x_13) 5 x_15) := va_up_of ef_16
        refine lv_iinc (v := nI 4) (lv' := [(5, .int (nI 4)), (4, .int x_10), (3, .int x_7), (0, .ref (ad 302)), (1, .int (nI fr)), (2, .int (nI i))]) hx hb dX6_block_364 hl (k := 0) rfl (by decide) (by decide) rfl (fun ls hl => ?_)
        refine lv_goto (tgt := 343) hx hb dX6_block_367 (by decide) ?_
        refine lv_iload hx hb dX6_block_343 (lv_at hl 0 rfl) ?_
        refine lv_if_le (tgt := 370) hx hb dX6_block_345 (by decide) (fun h => absurd h (by decide)) (fun _ => ?_)
        refine lv_aload_n hx hb dX6_block_348 rfl (lv_at hl 3 rfl) ?_
        have c_302 : f_16 302 = .inr (7, mO ad th cap cl fs wk td rw sh fi) := by rw [ef_16, va_up_ne _ _ (by decide)]; exact c_302
        refine x_get (ci := 7) (C := RX6) (T := TX6) (n := 32) (ref := RX6) hx hb hts hin_7 hown hK hw 302 (by omega) c_302 rfl 29 (by decide) hf_76 (fun _ h => h) rfl dX6_block_349 ?_
        refine lv_iload hx hb dX6_block_352 (lv_at hl 0 rfl) ?_
        refine lv_aload_n hx hb dX6_block_354 rfl (lv_at hl 3 rfl) ?_
        refine x_get (ci := 7) (C := RX6) (T := TX6) (n := 32) (ref := RX6) hx hb hts hin_7 hown hK hw 302 (by omega) c_302 rfl 29 (by decide) hf_76 (fun _ h => h) rfl dX6_block_355 ?_
        refine lv_iload hx hb dX6_block_358 (lv_at hl 0 rfl) ?_
        refine lv_iconst (v := nI 1) hx hb dX6_block_360 (by decide) ?_
        refine n_isub hx hb dX6_block_361 (by omega) ?_
        refine x_iald (j := 4 - 1) hx hb hK hw 323 0 (by omega) c_323 rfl rfl (by omega) (by decide) dX6_block_362 ?_
        refine lv_topi (fun x_17 ex_17 => ?_)
        refine x_iast (j := 4) hx hb hK dd hw 323 0 (by omega) c_323 rfl rfl (by omega) (by decide) dX6_block_363 (fun H locs hw => ?_)
        obtain ⟨f_18, ef_18⟩ : ∃ z, z = va_up f_16 323 (ai (ca 0) 8 (upd (upd (upd (upd (rd hh (wM ww bf fr 64) i) 7 x_11) 6 x_13) 5 x_15) 4 x_17)) := ⟨_, rfl⟩
        have hw : xw D vwCl N ad B s.heap f_18 H locs := by rw [ef_18]; exact hw
        have c_323 : f_18 323 = ai (ca 0) 8 (upd (upd (upd (upd (rd hh (wM ww bf fr 64) i) 7 x_11) 6 x_13) 5 x_15) 4 x_17) := va_up_of ef_18
        refine lv_iinc (v := nI 3) (lv' := [(5, .int (nI 3)), (4, .int x_10), (3, .int x_7), (0, .ref (ad 302)), (1, .int (nI fr)), (2, .int (nI i))]) hx hb dX6_block_364 hl (k := 0) rfl (by decide) (by decide) rfl (fun ls hl => ?_)
        refine lv_goto (tgt := 343) hx hb dX6_block_367 (by decide) ?_
        refine lv_iload hx hb dX6_block_343 (lv_at hl 0 rfl) ?_
        refine lv_if_le (tgt := 370) hx hb dX6_block_345 (by decide) (fun h => absurd h (by decide)) (fun _ => ?_)
        refine lv_aload_n hx hb dX6_block_348 rfl (lv_at hl 3 rfl) ?_
        have c_302 : f_18 302 = .inr (7, mO ad th cap cl fs wk td rw sh fi) := by rw [ef_18, va_up_ne _ _ (by decide)]; exact c_302
        refine x_get (ci := 7) (C := RX6) (T := TX6) (n := 32) (ref := RX6) hx hb hts hin_7 hown hK hw 302 (by omega) c_302 rfl 29 (by decide) hf_76 (fun _ h => h) rfl dX6_block_349 ?_
        refine lv_iload hx hb dX6_block_352 (lv_at hl 0 rfl) ?_
        refine lv_aload_n hx hb dX6_block_354 rfl (lv_at hl 3 rfl) ?_
        refine x_get (ci := 7) (C := RX6) (T := TX6) (n := 32) (ref := RX6) hx hb hts hin_7 hown hK hw 302 (by omega) c_302 rfl 29 (by decide) hf_76 (fun _ h => h) rfl dX6_block_355 ?_
        refine lv_iload hx hb dX6_block_358 (lv_at hl 0 rfl) ?_
        refine lv_iconst (v := nI 1) hx hb dX6_block_360 (by decide) ?_
        refine n_isub hx hb dX6_block_361 (by omega) ?_
        refine x_iald (j := 3 - 1) hx hb hK hw 323 0 (by omega) c_323 rfl rfl (by omega) (by decide) dX6_block_362 ?_
        refine lv_topi (fun x_19 ex_19 => ?_)
        refine x_iast (j := 3) hx hb hK dd hw 323 0 (by omega) c_323 rfl rfl (by omega) (by decide) dX6_block_363 (fun H locs hw => ?_)
        obtain ⟨f_20, ef_20⟩ : ∃ z, z = va_up f_18 323 (ai (ca 0) 8 (upd (upd (upd (upd (upd (rd hh (wM ww bf fr 64) i) 7 x_11) 6 x_13) 5 x_15) 4 x_17) 3 x_19)) := ⟨_, rfl⟩
        have hw : xw D vwCl N ad B s.heap f_20 H locs := by rw [ef_20]; exact hw
        have c_323 : f_20 323 = ai (ca 0) 8 (upd (upd (upd (upd (upd (rd hh (wM ww bf fr 64) i) 7 x_11) 6 x_13) 5 x_15) 4 x_17) 3 x_19) := va_up_of ef_20
        refine lv_iinc (v := nI 2) (lv' := [(5, .int (nI 2)), (4, .int x_10), (3, .int x_7), (0, .ref (ad 302)), (1, .int (nI fr)), (2, .int (nI i))]) hx hb dX6_block_364 hl (k := 0) rfl (by decide) (by decide) rfl (fun ls hl => ?_)
        refine lv_goto (tgt := 343) hx hb dX6_block_367 (by decide) ?_
        refine lv_iload hx hb dX6_block_343 (lv_at hl 0 rfl) ?_
        refine lv_if_le (tgt := 370) hx hb dX6_block_345 (by decide) (fun h => absurd h (by decide)) (fun _ => ?_)
        refine lv_aload_n hx hb dX6_block_348 rfl (lv_at hl 3 rfl) ?_
        have c_302 : f_20 302 = .inr (7, mO ad th cap cl fs wk td rw sh fi) := by rw [ef_20, va_up_ne _ _ (by decide)]; exact c_302
        refine x_get (ci := 7) (C := RX6) (T := TX6) (n := 32) (ref := RX6) hx hb hts hin_7 hown hK hw 302 (by omega) c_302 rfl 29 (by decide) hf_76 (fun _ h => h) rfl dX6_block_349 ?_
        refine lv_iload hx hb dX6_block_352 (lv_at hl 0 rfl) ?_
        refine lv_aload_n hx hb dX6_block_354 rfl (lv_at hl 3 rfl) ?_
        refine x_get (ci := 7) (C := RX6) (T := TX6) (n := 32) (ref := RX6) hx hb hts hin_7 hown hK hw 302 (by omega) c_302 rfl 29 (by decide) hf_76 (fun _ h => h) rfl dX6_block_355 ?_
        refine lv_iload hx hb dX6_block_358 (lv_at hl 0 rfl) ?_
        refine lv_iconst (v := nI 1) hx hb dX6_block_360 (by decide) ?_
        refine n_isub hx hb dX6_block_361 (by omega) ?_
        refine x_iald (j := 2 - 1) hx hb hK hw 323 0 (by omega) c_323 rfl rfl (by omega) (by decide) dX6_block_362 ?_
        refine lv_topi (fun x_21 ex_21 => ?_)
        refine x_iast (j := 2) hx hb hK dd hw 323 0 (by omega) c_323 rfl rfl (by omega) (by decide) dX6_block_363 (fun H locs hw => ?_)
        obtain ⟨f_22, ef_22⟩ : ∃ z, z = va_up f_20 323 (ai (ca 0) 8 (upd (upd (upd (upd (upd (upd (rd hh (wM ww bf fr 64) i) 7 x_11) 6 x_13) 5 x_15) 4 x_17) 3 x_19) 2 x_21)) := ⟨_, rfl⟩
        have hw : xw D vwCl N ad B s.heap f_22 H locs := by rw [ef_22]; exact hw
        have c_323 : f_22 323 = ai (ca 0) 8 (upd (upd (upd (upd (upd (upd (rd hh (wM ww bf fr 64) i) 7 x_11) 6 x_13) 5 x_15) 4 x_17) 3 x_19) 2 x_21) := va_up_of ef_22
        refine lv_iinc (v := nI 1) (lv' := [(5, .int (nI 1)), (4, .int x_10), (3, .int x_7), (0, .ref (ad 302)), (1, .int (nI fr)), (2, .int (nI i))]) hx hb dX6_block_364 hl (k := 0) rfl (by decide) (by decide) rfl (fun ls hl => ?_)
        refine lv_goto (tgt := 343) hx hb dX6_block_367 (by decide) ?_
        refine lv_iload hx hb dX6_block_343 (lv_at hl 0 rfl) ?_
        refine lv_if_le (tgt := 370) hx hb dX6_block_345 (by decide) (fun h => absurd h (by decide)) (fun _ => ?_)
        refine lv_aload_n hx hb dX6_block_348 rfl (lv_at hl 3 rfl) ?_
        have c_302 : f_22 302 = .inr (7, mO ad th cap cl fs wk td rw sh fi) := by rw [ef_22, va_up_ne _ _ (by decide)]; exact c_302
        refine x_get (ci := 7) (C := RX6) (T := TX6) (n := 32) (ref := RX6) hx hb hts hin_7 hown hK hw 302 (by omega) c_302 rfl 29 (by decide) hf_76 (fun _ h => h) rfl dX6_block_349 ?_
        refine lv_iload hx hb dX6_block_352 (lv_at hl 0 rfl) ?_
        refine lv_aload_n hx hb dX6_block_354 rfl (lv_at hl 3 rfl) ?_
        refine x_get (ci := 7) (C := RX6) (T := TX6) (n := 32) (ref := RX6) hx hb hts hin_7 hown hK hw 302 (by omega) c_302 rfl 29 (by decide) hf_76 (fun _ h => h) rfl dX6_block_355 ?_
        refine lv_iload hx hb dX6_block_358 (lv_at hl 0 rfl) ?_
        refine lv_iconst (v := nI 1) hx hb dX6_block_360 (by decide) ?_
        refine n_isub hx hb dX6_block_361 (by omega) ?_
        refine x_iald (j := 1 - 1) hx hb hK hw 323 0 (by omega) c_323 rfl rfl (by omega) (by decide) dX6_block_362 ?_
        refine lv_topi (fun x_23 ex_23 => ?_)
        refine x_iast (j := 1) hx hb hK dd hw 323 0 (by omega) c_323 rfl rfl (by omega) (by decide) dX6_block_363 (fun H locs hw => ?_)
        obtain ⟨f_24, ef_24⟩ : ∃ z, z = va_up f_22 323 (ai (ca 0) 8 (upd (upd (upd (upd (upd (upd (upd (rd hh (wM ww bf fr 64) i) 7 x_11) 6 x_13) 5 x_15) 4 x_17) 3 x_19) 2 x_21) 1 x_23)) := ⟨_, rfl⟩
        have hw : xw D vwCl N ad B s.heap f_24 H locs := by rw [ef_24]; exact hw
        have c_323 : f_24 323 = ai (ca 0) 8 (upd (upd (upd (upd (upd (upd (upd (rd hh (wM ww bf fr 64) i) 7 x_11) 6 x_13) 5 x_15) 4 x_17) 3 x_19) 2 x_21) 1 x_23) := va_up_of ef_24
        refine lv_iinc (v := nI 0) (lv' := [(5, .int (nI 0)), (4, .int x_10), (3, .int x_7), (0, .ref (ad 302)), (1, .int (nI fr)), (2, .int (nI i))]) hx hb dX6_block_364 hl (k := 0) rfl (by decide) (by decide) rfl (fun ls hl => ?_)
        refine lv_goto (tgt := 343) hx hb dX6_block_367 (by decide) ?_
        refine lv_iload hx hb dX6_block_343 (lv_at hl 0 rfl) ?_
        refine lv_if_le (tgt := 370) hx hb dX6_block_345 (by decide) (fun _ => ?_) (fun h => False.elim (h (by decide)))
        refine lv_aload_n hx hb dX6_block_370 rfl (lv_at hl 3 rfl) ?_
        have c_302 : f_24 302 = .inr (7, mO ad th cap cl fs wk td rw sh fi) := by rw [ef_24, va_up_ne _ _ (by decide)]; exact c_302
        refine x_get (ci := 7) (C := RX6) (T := TX6) (n := 32) (ref := RX6) hx hb hts hin_7 hown hK hw 302 (by omega) c_302 rfl 29 (by decide) hf_76 (fun _ h => h) rfl dX6_block_371 ?_
        refine lv_iconst (v := nI 4) hx hb dX6_block_374 (by decide) ?_
        refine lv_dup2_11 hx hb dX6_block_375 rfl rfl ?_
        refine x_iald (j := 4) hx hb hK hw 323 0 (by omega) c_323 rfl rfl (by omega) (by decide) dX6_block_376 ?_
        refine lv_iload_n hx hb dX6_block_377 rfl (lv_at hl 2 rfl) ?_
        refine lv_iadd hx hb dX6_block_378 ?_
        refine lv_topi (fun x_25 ex_25 => ?_)
        refine x_iast (j := 4) hx hb hK dd hw 323 0 (by omega) c_323 rfl rfl (by omega) (by decide) dX6_block_379 (fun H locs hw => ?_)
        obtain ⟨f_26, ef_26⟩ : ∃ z, z = va_up f_24 323 (ai (ca 0) 8 (upd (upd (upd (upd (upd (upd (upd (upd (rd hh (wM ww bf fr 64) i) 7 x_11) 6 x_13) 5 x_15) 4 x_17) 3 x_19) 2 x_21) 1 x_23) 4 x_25)) := ⟨_, rfl⟩
        have hw : xw D vwCl N ad B s.heap f_26 H locs := by rw [ef_26]; exact hw
        have c_323 : f_26 323 = ai (ca 0) 8 (upd (upd (upd (upd (upd (upd (upd (upd (rd hh (wM ww bf fr 64) i) 7 x_11) 6 x_13) 5 x_15) 4 x_17) 3 x_19) 2 x_21) 1 x_23) 4 x_25) := va_up_of ef_26
        refine lv_aload_n hx hb dX6_block_380 rfl (lv_at hl 3 rfl) ?_
        have c_302 : f_26 302 = .inr (7, mO ad th cap cl fs wk td rw sh fi) := by rw [ef_26, va_up_ne _ _ (by decide)]; exact c_302
        refine x_get (ci := 7) (C := RX6) (T := TX6) (n := 32) (ref := RX6) hx hb hts hin_7 hown hK hw 302 (by omega) c_302 rfl 29 (by decide) hf_76 (fun _ h => h) rfl dX6_block_381 ?_
        refine lv_iconst (v := nI 0) hx hb dX6_block_384 (by decide) ?_
        refine lv_iload_n hx hb dX6_block_385 rfl (lv_at hl 2 rfl) ?_
        refine lv_iload hx hb dX6_block_386 (lv_at hl 1 rfl) ?_
        refine lv_iadd hx hb dX6_block_388 ?_
        refine lv_topi (fun x_27 ex_27 => ?_)
        refine x_iast (j := 0) hx hb hK dd hw 323 0 (by omega) c_323 rfl rfl (by omega) (by decide) dX6_block_389 (fun H locs hw => ?_)
        obtain ⟨f_28, ef_28⟩ : ∃ z, z = va_up f_26 323 (ai (ca 0) 8 (upd (upd (upd (upd (upd (upd (upd (upd (upd (rd hh (wM ww bf fr 64) i) 7 x_11) 6 x_13) 5 x_15) 4 x_17) 3 x_19) 2 x_21) 1 x_23) 4 x_25) 0 x_27)) := ⟨_, rfl⟩
        have hw : xw D vwCl N ad B s.heap f_28 H locs := by rw [ef_28]; exact hw
        have c_323 : f_28 323 = ai (ca 0) 8 (upd (upd (upd (upd (upd (upd (upd (upd (upd (rd hh (wM ww bf fr 64) i) 7 x_11) 6 x_13) 5 x_15) 4 x_17) 3 x_19) 2 x_21) 1 x_23) 4 x_25) 0 x_27) := va_up_of ef_28
        obtain ⟨f_29, ef_29⟩ : ∃ z, z = va_up f_26 323 (ai (ca 0) 8 (rd hh (wM ww bf fr 64) (i + 1))) := ⟨_, rfl⟩
        have hw : xw D vwCl N ad B s.heap f_29 H locs := by rw [ef_29]; exact xw.arr (by rw [← ef_28]; exact hw) (fun j hj => by simp only [ex_27, ex_25, ex_23, ex_21, ex_19, ex_17, ex_15, ex_13, ex_11, ex_10, ex_7]; rcases (show j = 0 ∨ j = 1 ∨ j = 2 ∨ j = 3 ∨ j = 4 ∨ j = 5 ∨ j = 6 ∨ j = 7 by omega) with rfl | rfl | rfl | rfl | rfl | rfl | rfl | rfl <;> rfl)
        have c_323 : f_29 323 = ai (ca 0) 8 (rd hh (wM ww bf fr 64) (i + 1)) := va_up_of ef_29
        refine lv_iinc (v := nI (i + 1)) (lv' := [(2, .int (nI (i + 1))), (5, .int (nI 0)), (4, .int x_10), (3, .int x_7), (0, .ref (ad 302)), (1, .int (nI fr))]) hx hb dX6_block_390 hl (k := 5) rfl (by rw [show Int32.ofInt 1 = nI 1 from rfl]; exact nI_add _ _) (by decide) rfl (fun ls hl => ?_)
        refine lv_goto (tgt := 206) hx hb dX6_block_393 (by decide) ?_
        have hw : xw D vwCl N ad B s.heap (va_up (va_up f 321 (ai (ca 0) 64 (wM ww bf fr 64))) 323 (ai (ca 0) 8 (rd hh (wM ww bf fr 64) (i + 1)))) H locs := by
          have ez : f_29 = va_up (va_up f 321 (ai (ca 0) 64 (wM ww bf fr 64))) 323 (ai (ca 0) 8 (rd hh (wM ww bf fr 64) (i + 1))) := by simp only [ef_29, ex_27, ef_26, ex_25, ef_24, ex_23, ef_22, ex_21, ef_20, ex_19, ef_18, ex_17, ef_16, ex_15, ef_14, ex_13, ef_12, ex_11, ex_10, ex_7, ef_4, up_aa]
          rw [← ez]; exact hw
        exact ih_206 (i + 1) _ _ _ (by omega) (by omega) hw (lv_sub hl [4, 5, 0] rfl)
  have P_180 : ∀ (n_180 : Nat) (i : Nat) (H : Heap) (locs : List Loc) (ls : Array Slot), 8 + 1 ≤ i + n_180 → (i ≤ 8) → xw D vwCl N ad B s.heap (va_up (va_up f 321 (ai (ca 0) 64 (wM ww bf fr 64))) 323 (ai (ca 0) 8 (cpyTo vv hh i))) H locs → lv_has ls 6 [(0, .ref (ad 302)), (1, .int (nI fr)), (2, .int (nI i))] → W p l e rmX6_block s m ([.ref (ad 302), .int (nI fr)] : List Value).toArray below meth c H locs 0 0 (MQ below (xQv (fun u => u = va_up (va_up (va_up f 321 (ai (ca 0) 64 (wM ww bf fr 64))) 323 (ai (ca 0) 8 (rd hh (wM ww bf fr 64) 64))) 322 (ai (ca 0) 8 (mixTo hh (rd hh (wM ww bf fr 64) 64) 8))) D N ad B) ([.ref (ad 302), .int (nI fr)] : List Value).toArray s 0 0 (xA B)) (F0 m 180 ls []) := by
    intro n_180
    induction n_180 with
    | zero =>
      intro i H locs ls hm_180 hi hw hl
      exact absurd hm_180 (by omega)
    | succ n_180 ih_180 =>
      intro i H locs ls hm_180 hi hw hl
      have c_302 := b_302
      have c_319 := b_319
      have c_321 := b_321
      have c_322 := b_322
      have c_323 := b_323
      have c_325 := b_325
      obtain ⟨f_30, ef_30⟩ : ∃ z, z = va_up (va_up f 321 (ai (ca 0) 64 (wM ww bf fr 64))) 323 (ai (ca 0) 8 (cpyTo vv hh i)) := ⟨_, rfl⟩
      have hw : xw D vwCl N ad B s.heap f_30 H locs := by rw [ef_30]; exact hw
      have c_321 : f_30 321 = ai (ca 0) 64 (wM ww bf fr 64) := by rw [ef_30, va_up_ne _ _ (by decide), va_up_self]
      have c_323 : f_30 323 = ai (ca 0) 8 (cpyTo vv hh i) := by rw [ef_30, va_up_self]
      refine lv_iload_n hx hb dX6_block_180 rfl (lv_at hl 2 rfl) ?_
      refine lv_bipush (v := nI 8) hx hb dX6_block_181 (by decide) ?_
      refine n_icge (tgt := 204) hx hb dX6_block_183 (by decide) (by omega) (by omega) (fun c_183 => ?_) (fun c_183 => ?_)
      · refine lv_iconst (v := nI 0) hx hb dX6_block_204 (by decide) ?_
        refine lv_istore_n (lv' := [(2, .int (nI 0)), (0, .ref (ad 302)), (1, .int (nI fr))]) hx hb dX6_block_205 rfl hl (by decide) rfl (fun ls hl => ?_)
        have hw : xw D vwCl N ad B s.heap (va_up (va_up f 321 (ai (ca 0) 64 (wM ww bf fr 64))) 323 (ai (ca 0) 8 (rd hh (wM ww bf fr 64) 0))) H locs := by
          refine xw.arr (g := cpyTo vv hh 8) ?_ (fun j hj => cp_in hj)
          have ei : i = 8 := (by omega)
          subst ei; first | exact hw | (rw [← ef_30]; exact hw)
        exact P_206 65 0 _ _ _ (by omega) (by omega) hw (lv_sub hl [1, 2, 0] rfl)
      · refine lv_aload_n hx hb dX6_block_186 rfl (lv_at hl 0 rfl) ?_
        have c_302 : f_30 302 = .inr (7, mO ad th cap cl fs wk td rw sh fi) := by rw [ef_30, va_up_ne _ _ (by decide), va_up_ne _ _ (by decide)]; exact c_302
        refine x_get (ci := 7) (C := RX6) (T := TX6) (n := 32) (ref := RX6) hx hb hts hin_7 hown hK hw 302 (by omega) c_302 rfl 29 (by decide) hf_76 (fun _ h => h) rfl dX6_block_187 ?_
        refine lv_iload_n hx hb dX6_block_190 rfl (lv_at hl 2 rfl) ?_
        refine lv_aload_n hx hb dX6_block_191 rfl (lv_at hl 0 rfl) ?_
        refine x_get (ci := 7) (C := RX6) (T := TX6) (n := 32) (ref := RX6) hx hb hts hin_7 hown hK hw 302 (by omega) c_302 rfl 28 (by decide) hf_73 (fun _ h => h) rfl dX6_block_192 ?_
        refine lv_iload_n hx hb dX6_block_195 rfl (lv_at hl 2 rfl) ?_
        have c_322 : f_30 322 = ai (ca 0) 8 hh := by rw [ef_30, va_up_ne _ _ (by decide), va_up_ne _ _ (by decide)]; exact c_322
        refine x_iald (j := i) hx hb hK hw 322 0 (by omega) c_322 rfl rfl (by omega) (by decide) dX6_block_196 ?_
        refine lv_topi (fun x_31 ex_31 => ?_)
        refine x_iast (j := i) hx hb hK dd hw 323 0 (by omega) c_323 rfl rfl (by omega) (by decide) dX6_block_197 (fun H locs hw => ?_)
        obtain ⟨f_32, ef_32⟩ : ∃ z, z = va_up f_30 323 (ai (ca 0) 8 (upd (cpyTo vv hh i) i x_31)) := ⟨_, rfl⟩
        have hw : xw D vwCl N ad B s.heap f_32 H locs := by rw [ef_32]; exact hw
        have c_323 : f_32 323 = ai (ca 0) 8 (upd (cpyTo vv hh i) i x_31) := va_up_of ef_32
        refine lv_iinc (v := nI (i + 1)) (lv' := [(2, .int (nI (i + 1))), (0, .ref (ad 302)), (1, .int (nI fr))]) hx hb dX6_block_198 hl (k := 2) rfl (by rw [show Int32.ofInt 1 = nI 1 from rfl]; exact nI_add _ _) (by decide) rfl (fun ls hl => ?_)
        refine lv_goto (tgt := 180) hx hb dX6_block_201 (by decide) ?_
        have hw : xw D vwCl N ad B s.heap (va_up (va_up f 321 (ai (ca 0) 64 (wM ww bf fr 64))) 323 (ai (ca 0) 8 (cpyTo vv hh (i + 1)))) H locs := by
          have ez : f_32 = va_up (va_up f 321 (ai (ca 0) 64 (wM ww bf fr 64))) 323 (ai (ca 0) 8 (cpyTo vv hh (i + 1))) := by simp only [ef_32, ex_31, ef_30, up_aa, cp_step]
          rw [← ez]; exact hw
        exact ih_180 (i + 1) _ _ _ (by omega) (by omega) hw (lv_sub hl [1, 2, 0] rfl)
  have P_2 : ∀ (n_2 : Nat) (i : Nat) (H : Heap) (locs : List Loc) (ls : Array Slot), 64 + 1 ≤ i + n_2 → (i ≤ 64) → xw D vwCl N ad B s.heap (va_up f 321 (ai (ca 0) 64 (wM ww bf fr i))) H locs → lv_has ls 6 [(0, .ref (ad 302)), (1, .int (nI fr)), (2, .int (nI i))] → W p l e rmX6_block s m ([.ref (ad 302), .int (nI fr)] : List Value).toArray below meth c H locs 0 0 (MQ below (xQv (fun u => u = va_up (va_up (va_up f 321 (ai (ca 0) 64 (wM ww bf fr 64))) 323 (ai (ca 0) 8 (rd hh (wM ww bf fr 64) 64))) 322 (ai (ca 0) 8 (mixTo hh (rd hh (wM ww bf fr 64) 64) 8))) D N ad B) ([.ref (ad 302), .int (nI fr)] : List Value).toArray s 0 0 (xA B)) (F0 m 2 ls []) := by
    intro n_2
    induction n_2 with
    | zero =>
      intro i H locs ls hm_2 hi hw hl
      exact absurd hm_2 (by omega)
    | succ n_2 ih_2 =>
      intro i H locs ls hm_2 hi hw hl
      have c_302 := b_302
      have c_319 := b_319
      have c_321 := b_321
      have c_322 := b_322
      have c_323 := b_323
      have c_325 := b_325
      obtain ⟨f_33, ef_33⟩ : ∃ z, z = va_up f 321 (ai (ca 0) 64 (wM ww bf fr i)) := ⟨_, rfl⟩
      have hw : xw D vwCl N ad B s.heap f_33 H locs := by rw [ef_33]; exact hw
      have c_321 : f_33 321 = ai (ca 0) 64 (wM ww bf fr i) := by rw [ef_33, va_up_self]
      refine lv_iload_n hx hb dX6_block_2 rfl (lv_at hl 2 rfl) ?_
      refine lv_bipush (v := nI 64) hx hb dX6_block_3 (by decide) ?_
      refine n_icge (tgt := 178) hx hb dX6_block_5 (by decide) (by omega) (by omega) (fun c_5 => ?_) (fun c_5 => ?_)
      · refine lv_iconst (v := nI 0) hx hb dX6_block_178 (by decide) ?_
        refine lv_istore_n (lv' := [(2, .int (nI 0)), (0, .ref (ad 302)), (1, .int (nI fr))]) hx hb dX6_block_179 rfl hl (by decide) rfl (fun ls hl => ?_)
        have hw : xw D vwCl N ad B s.heap (va_up (va_up f 321 (ai (ca 0) 64 (wM ww bf fr 64))) 323 (ai (ca 0) 8 (cpyTo vv hh 0))) H locs := by
          have ez : f_33 = va_up (va_up f 321 (ai (ca 0) 64 (wM ww bf fr 64))) 323 (ai (ca 0) 8 (cpyTo vv hh 0)) := by have ei : i = 64 := (by omega); subst ei; rw [ef_33, cp_0]; show _ = va_up (va_up f 321 _) 323 (ai (ca 0) 8 vv); rw [← b_323, ← va_up_ne f (ai (ca 0) 64 (wM ww bf fr 64)) (show 323 ≠ 321 by decide), up_same]
          rw [← ez]; exact hw
        exact P_180 9 0 _ _ _ (by omega) (by omega) hw (lv_sub hl [1, 2, 0] rfl)
      · refine lv_iload_n hx hb dX6_block_8 rfl (lv_at hl 2 rfl) ?_
        refine lv_bipush (v := nI 16) hx hb dX6_block_9 (by decide) ?_
        refine n_icge (tgt := 87) hx hb dX6_block_11 (by decide) (by omega) (by omega) (fun c_11 => ?_) (fun c_11 => ?_)
        · refine lv_aload_n hx hb dX6_block_87 rfl (lv_at hl 0 rfl) ?_
          have c_302 : f_33 302 = .inr (7, mO ad th cap cl fs wk td rw sh fi) := by rw [ef_33, va_up_ne _ _ (by decide)]; exact c_302
          refine x_get (ci := 7) (C := RX6) (T := TX6) (n := 32) (ref := RX6) hx hb hts hin_7 hown hK hw 302 (by omega) c_302 rfl 27 (by decide) hf_70 (fun _ h => h) rfl dX6_block_88 ?_
          refine lv_iload_n hx hb dX6_block_91 rfl (lv_at hl 2 rfl) ?_
          refine lv_bipush (v := nI 15) hx hb dX6_block_92 (by decide) ?_
          refine n_isub hx hb dX6_block_94 (by omega) ?_
          refine x_iald (j := i - 15) hx hb hK hw 321 0 (by omega) c_321 rfl rfl (by omega) (by decide) dX6_block_95 ?_
          refine lv_topi (fun x_34 ex_34 => ?_)
          refine lv_istore_n (lv' := [(3, .int x_34), (0, .ref (ad 302)), (1, .int (nI fr)), (2, .int (nI i))]) hx hb dX6_block_96 rfl hl (by decide) rfl (fun ls hl => ?_)
          refine lv_aload_n hx hb dX6_block_97 rfl (lv_at hl 1 rfl) ?_
          refine x_get (ci := 7) (C := RX6) (T := TX6) (n := 32) (ref := RX6) hx hb hts hin_7 hown hK hw 302 (by omega) c_302 rfl 27 (by decide) hf_70 (fun _ h => h) rfl dX6_block_98 ?_
          refine lv_iload_n hx hb dX6_block_101 rfl (lv_at hl 3 rfl) ?_
          refine lv_iconst (v := nI 2) hx hb dX6_block_102 (by decide) ?_
          refine n_isub hx hb dX6_block_103 (by omega) ?_
          refine x_iald (j := i - 2) hx hb hK hw 321 0 (by omega) c_321 rfl rfl (by omega) (by decide) dX6_block_104 ?_
          refine lv_topi (fun x_35 ex_35 => ?_)
          refine lv_istore (lv' := [(4, .int x_35), (3, .int x_34), (0, .ref (ad 302)), (1, .int (nI fr)), (2, .int (nI i))]) hx hb dX6_block_105 hl (by decide) rfl (fun ls hl => ?_)
          refine lv_aload_n hx hb dX6_block_107 rfl (lv_at hl 2 rfl) ?_
          refine x_get (ci := 7) (C := RX6) (T := TX6) (n := 32) (ref := RX6) hx hb hts hin_7 hown hK hw 302 (by omega) c_302 rfl 27 (by decide) hf_70 (fun _ h => h) rfl dX6_block_108 ?_
          refine lv_iload_n hx hb dX6_block_111 rfl (lv_at hl 4 rfl) ?_
          refine lv_aload_n hx hb dX6_block_112 rfl (lv_at hl 2 rfl) ?_
          refine x_get (ci := 7) (C := RX6) (T := TX6) (n := 32) (ref := RX6) hx hb hts hin_7 hown hK hw 302 (by omega) c_302 rfl 27 (by decide) hf_70 (fun _ h => h) rfl dX6_block_113 ?_
          refine lv_iload_n hx hb dX6_block_116 rfl (lv_at hl 4 rfl) ?_
          refine lv_bipush (v := nI 16) hx hb dX6_block_117 (by decide) ?_
          refine n_isub hx hb dX6_block_119 (by omega) ?_
          refine x_iald (j := i - 16) hx hb hK hw 321 0 (by omega) c_321 rfl rfl (by omega) (by decide) dX6_block_120 ?_
          refine lv_iload_n hx hb dX6_block_121 rfl (lv_at hl 1 rfl) ?_
          refine lv_bipush (v := nI 7) hx hb dX6_block_122 (by decide) ?_
          refine x_Si (As := [.int x_34, .int (nI 7)]) (rest := [.int ((wM ww bf fr i) (i - 16)), .int (nI i), .ref (ad 321)]) ⟨hx, hb, hml, hown, hts⟩ (k_X6_turned l D ca N ad B tR tK f_33 dd x_34 7   (by omega)) (va_cwS 2 hts gX6_block_X6_turned rfl rfl rfl (by decide +kernel) ⟨Nat.le_of_ble_eq_true rfl, Nat.le_of_ble_eq_true rfl⟩) hK hE hB hw rfl rfl hl.1 (Nat.le_of_ble_eq_true rfl) ⟨Nat.zero_le _, Nat.zero_le _⟩ dX6_block_124 (fun r_37 f_36 H locs hp hw => ?_)
          obtain ⟨er, eu⟩ := hp
          rw [← er]
          rw [← eu] at hw
          refine lv_iload_n hx hb dX6_block_127 rfl (lv_at hl 1 rfl) ?_
          refine lv_bipush (v := nI 18) hx hb dX6_block_128 (by decide) ?_
          refine x_Si (As := [.int x_34, .int (nI 18)]) (rest := [.int (rot x_34 7), .int ((wM ww bf fr i) (i - 16)), .int (nI i), .ref (ad 321)]) ⟨hx, hb, hml, hown, hts⟩ (k_X6_turned l D ca N ad B tR tK f_33 dd x_34 18   (by omega)) (va_cwS 2 hts gX6_block_X6_turned rfl rfl rfl (by decide +kernel) ⟨Nat.le_of_ble_eq_true rfl, Nat.le_of_ble_eq_true rfl⟩) hK hE hB hw rfl rfl hl.1 (Nat.le_of_ble_eq_true rfl) ⟨Nat.zero_le _, Nat.zero_le _⟩ dX6_block_130 (fun r_39 f_38 H locs hp hw => ?_)
          obtain ⟨er, eu⟩ := hp
          rw [← er]
          rw [← eu] at hw
          refine lv_ixor hx hb dX6_block_133 ?_
          refine lv_iload_n hx hb dX6_block_134 rfl (lv_at hl 1 rfl) ?_
          refine lv_iconst (v := nI 3) hx hb dX6_block_135 (by decide) ?_
          refine n_iushr hx hb dX6_block_136 ?_
          refine lv_ixor hx hb dX6_block_137 ?_
          refine lv_iadd hx hb dX6_block_138 ?_
          refine lv_aload_n hx hb dX6_block_139 rfl (lv_at hl 2 rfl) ?_
          refine x_get (ci := 7) (C := RX6) (T := TX6) (n := 32) (ref := RX6) hx hb hts hin_7 hown hK hw 302 (by omega) c_302 rfl 27 (by decide) hf_70 (fun _ h => h) rfl dX6_block_140 ?_
          refine lv_iload_n hx hb dX6_block_143 rfl (lv_at hl 4 rfl) ?_
          refine lv_bipush (v := nI 7) hx hb dX6_block_144 (by decide) ?_
          refine n_isub hx hb dX6_block_146 (by omega) ?_
          refine x_iald (j := i - 7) hx hb hK hw 321 0 (by omega) c_321 rfl rfl (by omega) (by decide) dX6_block_147 ?_
          refine lv_iadd hx hb dX6_block_148 ?_
          refine lv_iload hx hb dX6_block_149 (lv_at hl 0 rfl) ?_
          refine lv_bipush (v := nI 17) hx hb dX6_block_151 (by decide) ?_
          refine x_Si (As := [.int x_35, .int (nI 17)]) (rest := [.int ((((wM ww bf fr i) (i - 16)) + (((rot x_34 7) ^^^ (rot x_34 18)) ^^^ (jushr x_34 (nI 3)))) + ((wM ww bf fr i) (i - 7))), .int (nI i), .ref (ad 321)]) ⟨hx, hb, hml, hown, hts⟩ (k_X6_turned l D ca N ad B tR tK f_33 dd x_35 17   (by omega)) (va_cwS 2 hts gX6_block_X6_turned rfl rfl rfl (by decide +kernel) ⟨Nat.le_of_ble_eq_true rfl, Nat.le_of_ble_eq_true rfl⟩) hK hE hB hw rfl rfl hl.1 (Nat.le_of_ble_eq_true rfl) ⟨Nat.zero_le _, Nat.zero_le _⟩ dX6_block_153 (fun r_41 f_40 H locs hp hw => ?_)
          obtain ⟨er, eu⟩ := hp
          rw [← er]
          rw [← eu] at hw
          refine lv_iload hx hb dX6_block_156 (lv_at hl 0 rfl) ?_
          refine lv_bipush (v := nI 19) hx hb dX6_block_158 (by decide) ?_
          refine x_Si (As := [.int x_35, .int (nI 19)]) (rest := [.int (rot x_35 17), .int ((((wM ww bf fr i) (i - 16)) + (((rot x_34 7) ^^^ (rot x_34 18)) ^^^ (jushr x_34 (nI 3)))) + ((wM ww bf fr i) (i - 7))), .int (nI i), .ref (ad 321)]) ⟨hx, hb, hml, hown, hts⟩ (k_X6_turned l D ca N ad B tR tK f_33 dd x_35 19   (by omega)) (va_cwS 2 hts gX6_block_X6_turned rfl rfl rfl (by decide +kernel) ⟨Nat.le_of_ble_eq_true rfl, Nat.le_of_ble_eq_true rfl⟩) hK hE hB hw rfl rfl hl.1 (Nat.le_of_ble_eq_true rfl) ⟨Nat.zero_le _, Nat.zero_le _⟩ dX6_block_160 (fun r_43 f_42 H locs hp hw => ?_)
          obtain ⟨er, eu⟩ := hp
          rw [← er]
          rw [← eu] at hw
          refine lv_ixor hx hb dX6_block_163 ?_
          refine lv_iload hx hb dX6_block_164 (lv_at hl 0 rfl) ?_
          refine lv_bipush (v := nI 10) hx hb dX6_block_166 (by decide) ?_
          refine n_iushr hx hb dX6_block_168 ?_
          refine lv_ixor hx hb dX6_block_169 ?_
          refine lv_iadd hx hb dX6_block_170 ?_
          refine lv_topi (fun x_44 ex_44 => ?_)
          refine x_iast (j := i) hx hb hK dd hw 321 0 (by omega) c_321 rfl rfl (by omega) (by decide) dX6_block_171 (fun H locs hw => ?_)
          obtain ⟨f_45, ef_45⟩ : ∃ z, z = va_up f_33 321 (ai (ca 0) 64 (upd (wM ww bf fr i) i x_44)) := ⟨_, rfl⟩
          have hw : xw D vwCl N ad B s.heap f_45 H locs := by rw [ef_45]; exact hw
          have c_321 : f_45 321 = ai (ca 0) 64 (upd (wM ww bf fr i) i x_44) := va_up_of ef_45
          refine lv_iinc (v := nI (i + 1)) (lv' := [(2, .int (nI (i + 1))), (4, .int x_35), (3, .int x_34), (0, .ref (ad 302)), (1, .int (nI fr))]) hx hb dX6_block_172 hl (k := 4) rfl (by rw [show Int32.ofInt 1 = nI 1 from rfl]; exact nI_add _ _) (by decide) rfl (fun ls hl => ?_)
          refine lv_goto (tgt := 2) hx hb dX6_block_175 (by decide) ?_
          have hw : xw D vwCl N ad B s.heap (va_up f 321 (ai (ca 0) 64 (wM ww bf fr (i + 1)))) H locs := by
            have ez : f_45 = va_up f 321 (ai (ca 0) 64 (wM ww bf fr (i + 1))) := by simp only [ef_45, ex_44, ex_35, ex_34, ef_33, up_aa]; first | (rw [wM_lo ww bf fr i (by omega)]; rfl) | (rw [wM_hi ww bf fr i (by omega)]; rfl)
            rw [← ez]; exact hw
          exact ih_2 (i + 1) _ _ _ (by omega) (by omega) hw (lv_sub hl [3, 4, 0] rfl)
        · refine lv_iload_n hx hb dX6_block_14 rfl (lv_at hl 1 rfl) ?_
          refine lv_iconst (v := nI 4) hx hb dX6_block_15 (by decide) ?_
          refine lv_iload_n hx hb dX6_block_16 rfl (lv_at hl 2 rfl) ?_
          refine n_imul hx hb dX6_block_17 ?_
          refine n_iadd hx hb dX6_block_18 ?_
          refine lv_istore_n (lv' := [(3, .int (nI (fr + (4 * i)))), (0, .ref (ad 302)), (1, .int (nI fr)), (2, .int (nI i))]) hx hb dX6_block_19 rfl hl (by decide) rfl (fun ls hl => ?_)
          refine lv_aload_n hx hb dX6_block_20 rfl (lv_at hl 1 rfl) ?_
          have c_302 : f_33 302 = .inr (7, mO ad th cap cl fs wk td rw sh fi) := by rw [ef_33, va_up_ne _ _ (by decide)]; exact c_302
          refine x_get (ci := 7) (C := RX6) (T := TX6) (n := 32) (ref := RX6) hx hb hts hin_7 hown hK hw 302 (by omega) c_302 rfl 27 (by decide) hf_70 (fun _ h => h) rfl dX6_block_21 ?_
          refine lv_iload_n hx hb dX6_block_24 rfl (lv_at hl 3 rfl) ?_
          refine lv_aload_n hx hb dX6_block_25 rfl (lv_at hl 1 rfl) ?_
          refine x_get (ci := 7) (C := RX6) (T := TX6) (n := 32) (ref := RX6) hx hb hts hin_7 hown hK hw 302 (by omega) c_302 rfl 25 (by decide) hf_64 (fun _ h => h) rfl dX6_block_26 ?_
          refine lv_iload_n hx hb dX6_block_29 rfl (lv_at hl 0 rfl) ?_
          have c_319 : f_33 319 = ai (ca 1) 320 bf := by rw [ef_33, va_up_ne _ _ (by decide)]; exact c_319
          refine x_bald (j := fr + (4 * i)) hx hb hK hw 319 1 (by omega) c_319 rfl rfl (by omega) (by decide) dX6_block_30 ?_
          refine lv_sipush (v := nI 255) hx hb dX6_block_31 (by decide) ?_
          refine lv_iand hx hb dX6_block_34 ?_
          refine lv_bipush (v := nI 24) hx hb dX6_block_35 (by decide) ?_
          refine lv_ishl hx hb dX6_block_37 ?_
          refine lv_aload_n hx hb dX6_block_38 rfl (lv_at hl 1 rfl) ?_
          refine x_get (ci := 7) (C := RX6) (T := TX6) (n := 32) (ref := RX6) hx hb hts hin_7 hown hK hw 302 (by omega) c_302 rfl 25 (by decide) hf_64 (fun _ h => h) rfl dX6_block_39 ?_
          refine lv_iload_n hx hb dX6_block_42 rfl (lv_at hl 0 rfl) ?_
          refine lv_iconst (v := nI 1) hx hb dX6_block_43 (by decide) ?_
          refine n_iadd hx hb dX6_block_44 ?_
          refine x_bald (j := (fr + (4 * i)) + 1) hx hb hK hw 319 1 (by omega) c_319 rfl rfl (by omega) (by decide) dX6_block_45 ?_
          refine lv_sipush (v := nI 255) hx hb dX6_block_46 (by decide) ?_
          refine lv_iand hx hb dX6_block_49 ?_
          refine lv_bipush (v := nI 16) hx hb dX6_block_50 (by decide) ?_
          refine lv_ishl hx hb dX6_block_52 ?_
          refine lv_ior hx hb dX6_block_53 ?_
          refine lv_aload_n hx hb dX6_block_54 rfl (lv_at hl 1 rfl) ?_
          refine x_get (ci := 7) (C := RX6) (T := TX6) (n := 32) (ref := RX6) hx hb hts hin_7 hown hK hw 302 (by omega) c_302 rfl 25 (by decide) hf_64 (fun _ h => h) rfl dX6_block_55 ?_
          refine lv_iload_n hx hb dX6_block_58 rfl (lv_at hl 0 rfl) ?_
          refine lv_iconst (v := nI 2) hx hb dX6_block_59 (by decide) ?_
          refine n_iadd hx hb dX6_block_60 ?_
          refine x_bald (j := (fr + (4 * i)) + 2) hx hb hK hw 319 1 (by omega) c_319 rfl rfl (by omega) (by decide) dX6_block_61 ?_
          refine lv_sipush (v := nI 255) hx hb dX6_block_62 (by decide) ?_
          refine lv_iand hx hb dX6_block_65 ?_
          refine lv_bipush (v := nI 8) hx hb dX6_block_66 (by decide) ?_
          refine lv_ishl hx hb dX6_block_68 ?_
          refine lv_ior hx hb dX6_block_69 ?_
          refine lv_aload_n hx hb dX6_block_70 rfl (lv_at hl 1 rfl) ?_
          refine x_get (ci := 7) (C := RX6) (T := TX6) (n := 32) (ref := RX6) hx hb hts hin_7 hown hK hw 302 (by omega) c_302 rfl 25 (by decide) hf_64 (fun _ h => h) rfl dX6_block_71 ?_
          refine lv_iload_n hx hb dX6_block_74 rfl (lv_at hl 0 rfl) ?_
          refine lv_iconst (v := nI 3) hx hb dX6_block_75 (by decide) ?_
          refine n_iadd hx hb dX6_block_76 ?_
          refine x_bald (j := (fr + (4 * i)) + 3) hx hb hK hw 319 1 (by omega) c_319 rfl rfl (by omega) (by decide) dX6_block_77 ?_
          refine lv_sipush (v := nI 255) hx hb dX6_block_78 (by decide) ?_
          refine lv_iand hx hb dX6_block_81 ?_
          refine lv_ior hx hb dX6_block_82 ?_
          refine lv_topi (fun x_46 ex_46 => ?_)
          refine x_iast (j := i) hx hb hK dd hw 321 0 (by omega) c_321 rfl rfl (by omega) (by decide) dX6_block_83 (fun H locs hw => ?_)
          obtain ⟨f_47, ef_47⟩ : ∃ z, z = va_up f_33 321 (ai (ca 0) 64 (upd (wM ww bf fr i) i x_46)) := ⟨_, rfl⟩
          have hw : xw D vwCl N ad B s.heap f_47 H locs := by rw [ef_47]; exact hw
          have c_321 : f_47 321 = ai (ca 0) 64 (upd (wM ww bf fr i) i x_46) := va_up_of ef_47
          refine lv_goto (tgt := 172) hx hb dX6_block_84 (by decide) ?_
          refine lv_iinc (v := nI (i + 1)) (lv' := [(2, .int (nI (i + 1))), (3, .int (nI (fr + (4 * i)))), (0, .ref (ad 302)), (1, .int (nI fr))]) hx hb dX6_block_172 hl (k := 3) rfl (by rw [show Int32.ofInt 1 = nI 1 from rfl]; exact nI_add _ _) (by decide) rfl (fun ls hl => ?_)
          refine lv_goto (tgt := 2) hx hb dX6_block_175 (by decide) ?_
          have hw : xw D vwCl N ad B s.heap (va_up f 321 (ai (ca 0) 64 (wM ww bf fr (i + 1)))) H locs := by
            have ez : f_47 = va_up f 321 (ai (ca 0) 64 (wM ww bf fr (i + 1))) := by simp only [ef_47, ex_46, ef_33, up_aa]; first | (rw [wM_lo ww bf fr i (by omega)]; rfl) | (rw [wM_hi ww bf fr i (by omega)]; rfl)
            rw [← ez]; exact hw
          exact ih_2 (i + 1) _ _ _ (by omega) (by omega) hw (lv_sub hl [2, 3, 0] rfl)
  refine lv_iconst (v := nI 0) hx hb dX6_block_0 (by decide) ?_
  refine lv_istore_n (lv' := [(2, .int (nI 0)), (0, .ref (ad 302)), (1, .int (nI fr))]) hx hb dX6_block_1 rfl hl (by decide) rfl (fun ls hl => ?_)
  have hw : xw D vwCl N ad B s.heap (va_up f 321 (ai (ca 0) 64 (wM ww bf fr 0))) s.heap [] := by
    have ez : f = va_up f 321 (ai (ca 0) 64 (wM ww bf fr 0)) := by show f = va_up f 321 (ai (ca 0) 64 ww); rw [← c_321, up_same]
    rw [← ez]; exact hw
  exact P_2 65 0 _ _ _ (by omega) (by omega) hw (lv_sub hl [1, 2, 0] rfl)
