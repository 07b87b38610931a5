/-! ===== the reference: digests compared, rows entered ===== -/
noncomputable def bI (p : Prop) : Int32 := @ite _ p (Classical.propDecidable _) (nI 1) (nI 0)
theorem bI_t {p : Prop} (h : p) : bI p = nI 1 := if_pos h
theorem bI_f {p : Prop} (h : ¬ p) : bI p = nI 0 := if_neg h
theorem bI_z {p : Prop} (h : bI p = 0) : ¬ p := fun q => by rw [bI_t q] at h; exact absurd h (by decide)
theorem bI_nz {p : Prop} (h : ¬ bI p = 0) : p := Classical.byContradiction fun q => h (by rw [bI_f q]; rfl)
theorem bI_01 (p : Prop) : bI p = 0 ∨ bI p = 1 := (Classical.em p).elim (fun h => Or.inr (bI_t h)) (fun h => Or.inl (bI_f h))
theorem bI_iff {p q : Prop} (h : p ↔ q) : bI p = bI q := by rw [propext h]
def dgb (S : Nat → Int32) (C : Int32) (k : Nat) : Int32 := if k < 32 then (jushr (S (k / 4)) (nI (24 - 8 * (k % 4)))).toInt8.toInt32 else (jushr C (nI (24 - 8 * (k - 32)))).toInt8.toInt32
theorem dgb_lo {S : Nat → Int32} {C : Int32} {md : Nat → Int32} {k : Nat} (h : k < 32) : mkf md S 32 k = dgb S C k := by
  unfold mkf dgb
  rw [if_pos h, if_pos h]
theorem dgb_hi {S : Nat → Int32} {C : Int32} {md : Nat → Int32} {k : Nat} (h : 32 ≤ k) (h2 : k < 36) : mkS md C 4 k = dgb S C k := by
  unfold mkS dgb
  rw [if_pos (by omega), if_neg (by omega)]
def hasL (wt : Nat → Int32) (i : Nat) (S : Nat → Int32) (C : Int32) (al : Int32) (k : Nat) : Prop := al &&& nI 1 = nI 1 → ∀ j, j < k → dgb S C j = wt (36 * i + j)
def hasS (wt : Nat → Int32) (i : Nat) (S : Nat → Int32) (C : Int32) (al : Int32) (k : Nat) : Prop := al &&& nI 2 = nI 2 → ∀ j, 32 ≤ j → j < k → dgb S C j = wt (36 * i + j)
def hasM (wt : Nat → Int32) (i : Nat) (S : Nat → Int32) (C : Int32) (al : Int32) : Prop := hasL wt i S C al 32 ∧ hasS wt i S C al 36
theorem hasL_eq {wt : Nat → Int32} {i : Nat} {S : Nat → Int32} {C al : Int32} {k : Nat} (h1 : al &&& nI 1 = nI 1) (h : hasL wt i S C al k) (e : dgb S C k = wt (36 * i + k)) : hasL wt i S C al (k + 1) := fun _ => lt_s (h h1) e
theorem hasL_ne {wt : Nat → Int32} {i : Nat} {S : Nat → Int32} {C al : Int32} {k : Nat} (h1 : al &&& nI 1 = nI 1) (e : ¬ dgb S C k = wt (36 * i + k)) : ¬ hasL wt i S C al (k + 1) := fun h => e (h h1 k (by omega))
theorem hasL_no {wt : Nat → Int32} {i : Nat} {S : Nat → Int32} {C al : Int32} {k : Nat} (h : ¬ hasL wt i S C al k) : ¬ hasL wt i S C al (k + 1) := fun q => h (fun h1 j hj => q h1 j (by omega))
theorem hasS_eq {wt : Nat → Int32} {i : Nat} {S : Nat → Int32} {C al : Int32} {k : Nat} (h1 : al &&& nI 2 = nI 2) (h : hasS wt i S C al k) (e : dgb S C k = wt (36 * i + k)) : hasS wt i S C al (k + 1) := fun _ j h3 hj => (Nat.lt_or_ge j k).elim (fun q => h h1 j h3 q) (fun q => by rw [show j = k by omega]; exact e)
theorem hasS_ne {wt : Nat → Int32} {i : Nat} {S : Nat → Int32} {C al : Int32} {k : Nat} (h1 : al &&& nI 2 = nI 2) (hk : 32 ≤ k) (e : ¬ dgb S C k = wt (36 * i + k)) : ¬ hasS wt i S C al (k + 1) := fun h => e (h h1 k hk (by omega))
theorem hasS_no {wt : Nat → Int32} {i : Nat} {S : Nat → Int32} {C al : Int32} {k : Nat} (h : ¬ hasS wt i S C al k) : ¬ hasS wt i S C al (k + 1) := fun q => h (fun h1 j h3 hj => q h1 j h3 (by omega))
theorem crM_ext {b b' : Nat → Int32} : ∀ n, (∀ i, i < n → b i &&& nI 255 = b' i &&& nI 255) → crM b n = crM b' n := by
  intro n
  induction n with
  | zero => intro _; rfl
  | succ n ih =>
    intro h
    show crcN (crM b n ^^^ (b n &&& nI 255)) 8 = crcN (crM b' n ^^^ (b' n &&& nI 255)) 8
    rw [ih (fun i hi => h i (by omega)), h n (by omega)]

abbrev rmX6_has : Room := { frames := 4, cells := 0, slots := 0, locals := 92 }

set_option maxHeartbeats 4000000 in
set_option maxRecDepth 100000 in
theorem k_X6_has (l : Launch) (D : va_G) (ca : Nat → ClassId) (N : Nat) (ad : Nat → Nat) (B tR tK : Nat) (f : Nat → va_E) (dd : xD N ad B) (th : Nat) (cap : Nat) (cl : Nat) (fs : Nat) (wk : Int32) (td : Nat) (rw : Nat) (sh : Nat) (fi : Nat) (al : Nat → Int32) (wt : Nat → Int32) (bf : Nat → Int32) (md : Nat → Int32) (ww : Nat → Int32) (hh : Nat → Int32) (vv : Nat → Int32) (i : Nat) (c_302 : f 302 = .inr (7, mO ad th cap cl fs wk td rw sh fi)) (c_306 : f 306 = ai (ca 0) 20 al) (c_307 : f 307 = ai (ca 1) 720 wt) (c_319 : f 319 = ai (ca 1) 320 bf) (c_320 : f 320 = ai (ca 1) 36 md) (c_321 : f 321 = ai (ca 0) 64 ww) (c_322 : f 322 = ai (ca 0) 8 hh) (c_323 : f 323 = ai (ca 0) 8 vv) (c_324 : f 324 = ai (ca 0) 8 shR) (c_325 : f 325 = ai (ca 0) 64 shK)  (hN : 326 ≤ N) (hf : fi ≤ 200) (hi : i < 20) : xMi l yX6_has wsX6_has rmX6_has [.ref (ad 302), .int (nI i)] D ca N ad B tR tK f (fun r u => ∃ b1 : Nat → Int32, ∃ w1 : Nat → Int32, ∃ v1 : Nat → Int32, ∃ h1 : Nat → Int32, ∃ m1 : Nat → Int32, (∀ i, i < fi → b1 i = bf i) ∧ bI (hasM wt i (sha fi (fun i7 => bf i7 &&& nI 255)) (crM bf fi ^^^ (-1)) (al i)) = r ∧ u = va_up (va_up (va_up (va_up (va_up f 319 (ai (ca 1) 320 b1)) 321 (ai (ca 0) 64 w1)) 323 (ai (ca 0) 8 v1)) 322 (ai (ca 0) 8 h1)) 320 (ai (ca 1) 36 m1)) := by
  refine x_open (cc := cX6_has) (maxL := 4) (ret := (some .boolean)) (by decide) rfl (Nat.le_of_ble_eq_true rfl) ?_
  intro p e s m below meth c ls hx hb hml hown hts hr hlocks hnm hB hK hE hw hl
  have hown : s.vm.findClass RX6 = some m.cls := hown
  have hl : lv_has ls 4 [(0, .ref (ad 302)), (1, .int (nI i))] := hl
  have hin_7 : ∀ w ∈ u_ws RX6 TX6 32, w ∈ wsX6_has := by decide +kernel
  have hf_67 := hts (.fieldLink RX6 67 "FixityRowsModel" "made" "[B") (by decide +kernel)
  have hf_23 := hts (.fieldLink RX6 23 "FixityRowsModel" "wanted" "[B") (by decide +kernel)
  have hf_20 := hts (.fieldLink RX6 20 "FixityRowsModel" "algorithms" "[I") (by decide +kernel)
  have b_302 := c_302
  have b_306 := c_306
  have b_307 := c_307
  have b_319 := c_319
  have b_320 := c_320
  have b_321 := c_321
  have b_322 := c_322
  have b_323 := c_323
  have b_324 := c_324
  have b_325 := c_325
  have P_123 : ∀ (b1 : Nat → Int32) (w1 : Nat → Int32) (v1 : Nat → Int32) (h1 : Nat → Int32) (m1 : Nat → Int32) (H : Heap) (locs : List Loc) (ls : Array Slot), (∀ i, i < fi → b1 i = bf i) → xw D vwCl N ad B s.heap (va_up (va_up (va_up (va_up (va_up f 319 (ai (ca 1) 320 b1)) 321 (ai (ca 0) 64 w1)) 323 (ai (ca 0) 8 v1)) 322 (ai (ca 0) 8 h1)) 320 (ai (ca 1) 36 m1)) H locs → lv_has ls 4 [(0, .ref (ad 302)), (2, .int (bI (hasL wt i (sha fi (fun i7 => bf i7 &&& nI 255)) (crM bf fi ^^^ (-1)) (al i) 32 ∧ hasS wt i (sha fi (fun i7 => bf i7 &&& nI 255)) (crM bf fi ^^^ (-1)) (al i) 36)))] → W p l e rmX6_has s m ([.ref (ad 302), .int (nI i)] : List Value).toArray below meth c H locs 0 0 (MQ below (xQi (fun r u => ∃ b1 : Nat → Int32, ∃ w1 : Nat → Int32, ∃ v1 : Nat → Int32, ∃ h1 : Nat → Int32, ∃ m1 : Nat → Int32, (∀ i, i < fi → b1 i = bf i) ∧ bI (hasM wt i (sha fi (fun i7 => bf i7 &&& nI 255)) (crM bf fi ^^^ (-1)) (al i)) = r ∧ u = va_up (va_up (va_up (va_up (va_up f 319 (ai (ca 1) 320 b1)) 321 (ai (ca 0) 64 w1)) 323 (ai (ca 0) 8 v1)) 322 (ai (ca 0) 8 h1)) 320 (ai (ca 1) 36 m1)) D N ad B) ([.ref (ad 302), .int (nI i)] : List Value).toArray s 0 0 (xA B)) (F0 m 123 ls []) := by
    intro b1 w1 v1 h1 m1 H locs ls hb1 hw hl
    have c_302 := b_302
    have c_306 := b_306
    have c_307 := b_307
    have c_319 := b_319
    have c_320 := b_320
    have c_321 := b_321
    have c_322 := b_322
    have c_323 := b_323
    have c_324 := b_324
    have c_325 := b_325
    obtain ⟨f_1, ef_1⟩ : ∃ z, z = va_up (va_up (va_up (va_up (va_up f 319 (ai (ca 1) 320 b1)) 321 (ai (ca 0) 64 w1)) 323 (ai (ca 0) 8 v1)) 322 (ai (ca 0) 8 h1)) 320 (ai (ca 1) 36 m1) := ⟨_, rfl⟩
    have hw : xw D vwCl N ad B s.heap f_1 H locs := by rw [ef_1]; exact hw
    have c_319 : f_1 319 = ai (ca 1) 320 b1 := by rw [ef_1, va_up_ne _ _ (by decide), va_up_ne _ _ (by decide), va_up_ne _ _ (by decide), va_up_ne _ _ (by decide), va_up_self]
    have c_321 : f_1 321 = ai (ca 0) 64 w1 := by rw [ef_1, va_up_ne _ _ (by decide), va_up_ne _ _ (by decide), va_up_ne _ _ (by decide), va_up_self]
    have c_323 : f_1 323 = ai (ca 0) 8 v1 := by rw [ef_1, va_up_ne _ _ (by decide), va_up_ne _ _ (by decide), va_up_self]
    have c_322 : f_1 322 = ai (ca 0) 8 h1 := by rw [ef_1, va_up_ne _ _ (by decide), va_up_self]
    have c_320 : f_1 320 = ai (ca 1) 36 m1 := by rw [ef_1, va_up_self]
    refine lv_iload_n hx hb dX6_has_123 rfl (lv_at hl 1 rfl) ?_
    exact x_zret hx hb hr hlocks hw (bI_01 _) ⟨b1, w1, v1, h1, m1, hb1, rfl, (by simp only [ef_1])⟩ dX6_has_124
  have P_81 : ∀ (n_81 : Nat) (b1 : Nat → Int32) (w1 : Nat → Int32) (v1 : Nat → Int32) (h1 : Nat → Int32) (m1 : Nat → Int32) (k : Nat) (H : Heap) (locs : List Loc) (ls : Array Slot), 36 + 1 ≤ k + n_81 → (∀ i, i < fi → b1 i = bf i) → (al i &&& nI 2 = nI 2) → (32 ≤ k) → (k ≤ 36) → xw D vwCl N ad B s.heap (va_up (va_up (va_up (va_up (va_up f 319 (ai (ca 1) 320 b1)) 321 (ai (ca 0) 64 w1)) 323 (ai (ca 0) 8 v1)) 322 (ai (ca 0) 8 h1)) 320 (ai (ca 1) 36 (mkS m1 (crM bf fi ^^^ (-1)) 4))) H locs → lv_has ls 4 [(0, .ref (ad 302)), (1, .int (nI i)), (2, .int (bI (hasL wt i (sha fi (fun i7 => bf i7 &&& nI 255)) (crM bf fi ^^^ (-1)) (al i) 32 ∧ hasS wt i (sha fi (fun i7 => bf i7 &&& nI 255)) (crM bf fi ^^^ (-1)) (al i) k))), (3, .int (nI k))] → W p l e rmX6_has s m ([.ref (ad 302), .int (nI i)] : List Value).toArray below meth c H locs 0 0 (MQ below (xQi (fun r u => ∃ b1 : Nat → Int32, ∃ w1 : Nat → Int32, ∃ v1 : Nat → Int32, ∃ h1 : Nat → Int32, ∃ m1 : Nat → Int32, (∀ i, i < fi → b1 i = bf i) ∧ bI (hasM wt i (sha fi (fun i7 => bf i7 &&& nI 255)) (crM bf fi ^^^ (-1)) (al i)) = r ∧ u = va_up (va_up (va_up (va_up (va_up f 319 (ai (ca 1) 320 b1)) 321 (ai (ca 0) 64 w1)) 323 (ai (ca 0) 8 v1)) 322 (ai (ca 0) 8 h1)) 320 (ai (ca 1) 36 m1)) D N ad B) ([.ref (ad 302), .int (nI i)] : List Value).toArray s 0 0 (xA B)) (F0 m 81 ls []) := by
    intro n_81
    induction n_81 with
    | zero =>
      intro b1 w1 v1 h1 m1 k H locs ls hm_81 hb1 h2a hk1 hk hw hl
      exact absurd hm_81 (by omega)
    | succ n_81 ih_81 =>
      intro b1 w1 v1 h1 m1 k H locs ls hm_81 hb1 h2a hk1 hk hw hl
      have c_302 := b_302
      have c_306 := b_306
      have c_307 := b_307
      have c_319 := b_319
      have c_320 := b_320
      have c_321 := b_321
      have c_322 := b_322
      have c_323 := b_323
      have c_324 := b_324
      have c_325 := b_325
      obtain ⟨f_2, ef_2⟩ : ∃ z, z = va_up (va_up (va_up (va_up (va_up f 319 (ai (ca 1) 320 b1)) 321 (ai (ca 0) 64 w1)) 323 (ai (ca 0) 8 v1)) 322 (ai (ca 0) 8 h1)) 320 (ai (ca 1) 36 (mkS m1 (crM bf fi ^^^ (-1)) 4)) := ⟨_, rfl⟩
      have hw : xw D vwCl N ad B s.heap f_2 H locs := by rw [ef_2]; exact hw
      have c_319 : f_2 319 = ai (ca 1) 320 b1 := by rw [ef_2, va_up_ne _ _ (by decide), va_up_ne _ _ (by decide), va_up_ne _ _ (by decide), va_up_ne _ _ (by decide), va_up_self]
      have c_321 : f_2 321 = ai (ca 0) 64 w1 := by rw [ef_2, va_up_ne _ _ (by decide), va_up_ne _ _ (by decide), va_up_ne _ _ (by decide), va_up_self]
      have c_323 : f_2 323 = ai (ca 0) 8 v1 := by rw [ef_2, va_up_ne _ _ (by decide), va_up_ne _ _ (by decide), va_up_self]
      have c_322 : f_2 322 = ai (ca 0) 8 h1 := by rw [ef_2, va_up_ne _ _ (by decide), va_up_self]
      have c_320 : f_2 320 = ai (ca 1) 36 (mkS m1 (crM bf fi ^^^ (-1)) 4) := by rw [ef_2, va_up_self]
      refine lv_iload_n hx hb dX6_has_81 rfl (lv_at hl 3 rfl) ?_
      refine lv_bipush (v := nI 36) hx hb dX6_has_82 (by decide) ?_
      refine n_icge (tgt := 123) hx hb dX6_has_84 (by decide) (by omega) (by omega) (fun c_84 => ?_) (fun c_84 => ?_)
      · have hw : xw D vwCl N ad B s.heap (va_up (va_up (va_up (va_up (va_up f 319 (ai (ca 1) 320 b1)) 321 (ai (ca 0) 64 w1)) 323 (ai (ca 0) 8 v1)) 322 (ai (ca 0) 8 h1)) 320 (ai (ca 1) 36 (mkS m1 (crM bf fi ^^^ (-1)) 4))) H locs := by
          have ez : f_2 = va_up (va_up (va_up (va_up (va_up f 319 (ai (ca 1) 320 b1)) 321 (ai (ca 0) 64 w1)) 323 (ai (ca 0) 8 v1)) 322 (ai (ca 0) 8 h1)) 320 (ai (ca 1) 36 (mkS m1 (crM bf fi ^^^ (-1)) 4)) := by simp only [ef_2]
          rw [← ez]; exact hw
        exact P_123 b1 w1 v1 h1 (mkS m1 (crM bf fi ^^^ (-1)) 4) _ _ _ hb1 hw (by have hl := lv_sub (l' := [(0, .ref (ad 302)), (2, .int (bI (hasL wt i (sha fi (fun i7 => bf i7 &&& nI 255)) (crM bf fi ^^^ (-1)) (al i) 32 ∧ hasS wt i (sha fi (fun i7 => bf i7 &&& nI 255)) (crM bf fi ^^^ (-1)) (al i) k)))]) hl [0, 2] rfl; have ek : k = 36 := (by omega); rw [ek] at hl; exact hl)
      · refine lv_iload_n hx hb dX6_has_87 rfl (lv_at hl 2 rfl) ?_
        refine lv_if_eq (tgt := 115) hx hb dX6_has_88 (by decide) (fun c_88 => ?_) (fun c_88 => ?_)
        · refine lv_iconst (v := nI 0) hx hb dX6_has_115 (by decide) ?_
          refine lv_istore_n (lv' := [(2, .int (nI 0)), (0, .ref (ad 302)), (1, .int (nI i)), (3, .int (nI k))]) hx hb dX6_has_116 rfl hl (by decide) rfl (fun ls hl => ?_)
          refine lv_iinc (v := nI (k + 1)) (lv' := [(3, .int (nI (k + 1))), (2, .int (nI 0)), (0, .ref (ad 302)), (1, .int (nI i))]) hx hb dX6_has_117 hl (k := 3) rfl (by rw [show Int32.ofInt 1 = nI 1 from rfl]; exact nI_add _ _) (by decide) rfl (fun ls hl => ?_)
          refine lv_goto (tgt := 81) hx hb dX6_has_120 (by decide) ?_
          have hw : xw D vwCl N ad B s.heap (va_up (va_up (va_up (va_up (va_up f 319 (ai (ca 1) 320 b1)) 321 (ai (ca 0) 64 w1)) 323 (ai (ca 0) 8 v1)) 322 (ai (ca 0) 8 h1)) 320 (ai (ca 1) 36 (mkS m1 (crM bf fi ^^^ (-1)) 4))) H locs := by
            have ez : f_2 = va_up (va_up (va_up (va_up (va_up f 319 (ai (ca 1) 320 b1)) 321 (ai (ca 0) 64 w1)) 323 (ai (ca 0) 8 v1)) 322 (ai (ca 0) 8 h1)) 320 (ai (ca 1) 36 (mkS m1 (crM bf fi ^^^ (-1)) 4)) := by simp only [ef_2]
            rw [← ez]; exact hw
          exact ih_81 b1 w1 v1 h1 m1 (k + 1) _ _ _ (by omega) hb1 h2a (by omega) (by omega) hw (by have hl := lv_sub (l' := [(0, .ref (ad 302)), (1, .int (nI i)), (2, .int (nI 0)), (3, .int (nI (k + 1)))]) hl [2, 3, 1, 0] rfl; first | (rw [show bI (hasL wt i (sha fi (fun i7 => bf i7 &&& nI 255)) (crM bf fi ^^^ (-1)) (al i) 32 ∧ hasS wt i (sha fi (fun i7 => bf i7 &&& nI 255)) (crM bf fi ^^^ (-1)) (al i) (k + 1)) = nI 0 from bI_f (fun q => bI_z c_88 ⟨q.1, Classical.byContradiction fun z => hasS_no z q.2⟩)]; exact hl) | (rw [show bI (hasL wt i (sha fi (fun i7 => bf i7 &&& nI 255)) (crM bf fi ^^^ (-1)) (al i) 32 ∧ hasS wt i (sha fi (fun i7 => bf i7 &&& nI 255)) (crM bf fi ^^^ (-1)) (al i) (k + 1)) = nI 0 from bI_f (fun q => hasS_ne h2a hk1 (by rw [← dgb_hi (md := m1) (by omega) (by omega)]; exact c_108) q.2)]; exact hl) | (rw [show bI (hasL wt i (sha fi (fun i7 => bf i7 &&& nI 255)) (crM bf fi ^^^ (-1)) (al i) 32 ∧ hasS wt i (sha fi (fun i7 => bf i7 &&& nI 255)) (crM bf fi ^^^ (-1)) (al i) (k + 1)) = nI 1 from bI_t ⟨(bI_nz c_88).1, hasS_eq h2a (bI_nz c_88).2 (by rw [← dgb_hi (md := m1) (by omega) (by omega)]; exact c_108)⟩]; exact hl))
        · refine lv_aload_n hx hb dX6_has_91 rfl (lv_at hl 0 rfl) ?_
          have c_302 : f_2 302 = .inr (7, mO ad th cap cl fs wk td rw sh fi) := by rw [ef_2, va_up_ne _ _ (by decide), va_up_ne _ _ (by decide), va_up_ne _ _ (by decide), va_up_ne _ _ (by decide), va_up_ne _ _ (by decide)]; exact c_302
          refine x_get (ci := 7) (C := RX6) (T := TX6) (n := 32) (ref := RX6) hx hb hts hin_7 hown hK hw 302 (by omega) c_302 rfl 26 (by decide) hf_67 (fun _ h => h) rfl dX6_has_92 ?_
          refine lv_iload_n hx hb dX6_has_95 rfl (lv_at hl 3 rfl) ?_
          refine x_bald (j := k) hx hb hK hw 320 1 (by omega) c_320 rfl rfl (by omega) (by decide) dX6_has_96 ?_
          refine lv_aload_n hx hb dX6_has_97 rfl (lv_at hl 0 rfl) ?_
          refine x_get (ci := 7) (C := RX6) (T := TX6) (n := 32) (ref := RX6) hx hb hts hin_7 hown hK hw 302 (by omega) c_302 rfl 8 (by decide) hf_23 (fun _ h => h) rfl dX6_has_98 ?_
          refine lv_bipush (v := nI 36) hx hb dX6_has_101 (by decide) ?_
          refine lv_iload_n hx hb dX6_has_103 rfl (lv_at hl 1 rfl) ?_
          refine n_imul hx hb dX6_has_104 ?_
          refine lv_iload_n hx hb dX6_has_105 rfl (lv_at hl 3 rfl) ?_
          refine n_iadd hx hb dX6_has_106 ?_
          have c_307 : f_2 307 = ai (ca 1) 720 wt := by rw [ef_2, va_up_ne _ _ (by decide), va_up_ne _ _ (by decide), va_up_ne _ _ (by decide), va_up_ne _ _ (by decide), va_up_ne _ _ (by decide)]; exact c_307
          refine x_bald (j := (36 * i) + k) hx hb hK hw 307 1 (by omega) c_307 rfl rfl (by omega) (by decide) dX6_has_107 ?_
          refine lv_icmp_ne (tgt := 115) hx hb dX6_has_108 (by decide) (fun c_108 => ?_) (fun c_108 => ?_)
          · refine lv_iconst (v := nI 0) hx hb dX6_has_115 (by decide) ?_
            refine lv_istore_n (lv' := [(2, .int (nI 0)), (0, .ref (ad 302)), (1, .int (nI i)), (3, .int (nI k))]) hx hb dX6_has_116 rfl hl (by decide) rfl (fun ls hl => ?_)
            refine lv_iinc (v := nI (k + 1)) (lv' := [(3, .int (nI (k + 1))), (2, .int (nI 0)), (0, .ref (ad 302)), (1, .int (nI i))]) hx hb dX6_has_117 hl (k := 3) rfl (by rw [show Int32.ofInt 1 = nI 1 from rfl]; exact nI_add _ _) (by decide) rfl (fun ls hl => ?_)
            refine lv_goto (tgt := 81) hx hb dX6_has_120 (by decide) ?_
            have hw : xw D vwCl N ad B s.heap (va_up (va_up (va_up (va_up (va_up f 319 (ai (ca 1) 320 b1)) 321 (ai (ca 0) 64 w1)) 323 (ai (ca 0) 8 v1)) 322 (ai (ca 0) 8 h1)) 320 (ai (ca 1) 36 (mkS m1 (crM bf fi ^^^ (-1)) 4))) H locs := by
              have ez : f_2 = va_up (va_up (va_up (va_up (va_up f 319 (ai (ca 1) 320 b1)) 321 (ai (ca 0) 64 w1)) 323 (ai (ca 0) 8 v1)) 322 (ai (ca 0) 8 h1)) 320 (ai (ca 1) 36 (mkS m1 (crM bf fi ^^^ (-1)) 4)) := by simp only [ef_2]
              rw [← ez]; exact hw
            exact ih_81 b1 w1 v1 h1 m1 (k + 1) _ _ _ (by omega) hb1 h2a (by omega) (by omega) hw (by have hl := lv_sub (l' := [(0, .ref (ad 302)), (1, .int (nI i)), (2, .int (nI 0)), (3, .int (nI (k + 1)))]) hl [2, 3, 1, 0] rfl; first | (rw [show bI (hasL wt i (sha fi (fun i7 => bf i7 &&& nI 255)) (crM bf fi ^^^ (-1)) (al i) 32 ∧ hasS wt i (sha fi (fun i7 => bf i7 &&& nI 255)) (crM bf fi ^^^ (-1)) (al i) (k + 1)) = nI 0 from bI_f (fun q => bI_z c_88 ⟨q.1, Classical.byContradiction fun z => hasS_no z q.2⟩)]; exact hl) | (rw [show bI (hasL wt i (sha fi (fun i7 => bf i7 &&& nI 255)) (crM bf fi ^^^ (-1)) (al i) 32 ∧ hasS wt i (sha fi (fun i7 => bf i7 &&& nI 255)) (crM bf fi ^^^ (-1)) (al i) (k + 1)) = nI 0 from bI_f (fun q => hasS_ne h2a hk1 (by rw [← dgb_hi (md := m1) (by omega) (by omega)]; exact c_108) q.2)]; exact hl) | (rw [show bI (hasL wt i (sha fi (fun i7 => bf i7 &&& nI 255)) (crM bf fi ^^^ (-1)) (al i) 32 ∧ hasS wt i (sha fi (fun i7 => bf i7 &&& nI 255)) (crM bf fi ^^^ (-1)) (al i) (k + 1)) = nI 1 from bI_t ⟨(bI_nz c_88).1, hasS_eq h2a (bI_nz c_88).2 (by rw [← dgb_hi (md := m1) (by omega) (by omega)]; exact c_108)⟩]; exact hl))
          · refine lv_iconst (v := nI 1) hx hb dX6_has_111 (by decide) ?_
            refine lv_goto (tgt := 116) hx hb dX6_has_112 (by decide) ?_
            refine lv_istore_n (lv' := [(2, .int (nI 1)), (0, .ref (ad 302)), (1, .int (nI i)), (3, .int (nI k))]) hx hb dX6_has_116 rfl hl (by decide) rfl (fun ls hl => ?_)
            refine lv_iinc (v := nI (k + 1)) (lv' := [(3, .int (nI (k + 1))), (2, .int (nI 1)), (0, .ref (ad 302)), (1, .int (nI i))]) hx hb dX6_has_117 hl (k := 3) rfl (by rw [show Int32.ofInt 1 = nI 1 from rfl]; exact nI_add _ _) (by decide) rfl (fun ls hl => ?_)
            refine lv_goto (tgt := 81) hx hb dX6_has_120 (by decide) ?_
            have hw : xw D vwCl N ad B s.heap (va_up (va_up (va_up (va_up (va_up f 319 (ai (ca 1) 320 b1)) 321 (ai (ca 0) 64 w1)) 323 (ai (ca 0) 8 v1)) 322 (ai (ca 0) 8 h1)) 320 (ai (ca 1) 36 (mkS m1 (crM bf fi ^^^ (-1)) 4))) H locs := by
              have ez : f_2 = va_up (va_up (va_up (va_up (va_up f 319 (ai (ca 1) 320 b1)) 321 (ai (ca 0) 64 w1)) 323 (ai (ca 0) 8 v1)) 322 (ai (ca 0) 8 h1)) 320 (ai (ca 1) 36 (mkS m1 (crM bf fi ^^^ (-1)) 4)) := by simp only [ef_2]
              rw [← ez]; exact hw
            exact ih_81 b1 w1 v1 h1 m1 (k + 1) _ _ _ (by omega) hb1 h2a (by omega) (by omega) hw (by have hl := lv_sub (l' := [(0, .ref (ad 302)), (1, .int (nI i)), (2, .int (nI 1)), (3, .int (nI (k + 1)))]) hl [2, 3, 1, 0] rfl; first | (rw [show bI (hasL wt i (sha fi (fun i7 => bf i7 &&& nI 255)) (crM bf fi ^^^ (-1)) (al i) 32 ∧ hasS wt i (sha fi (fun i7 => bf i7 &&& nI 255)) (crM bf fi ^^^ (-1)) (al i) (k + 1)) = nI 0 from bI_f (fun q => bI_z c_88 ⟨q.1, Classical.byContradiction fun z => hasS_no z q.2⟩)]; exact hl) | (rw [show bI (hasL wt i (sha fi (fun i7 => bf i7 &&& nI 255)) (crM bf fi ^^^ (-1)) (al i) 32 ∧ hasS wt i (sha fi (fun i7 => bf i7 &&& nI 255)) (crM bf fi ^^^ (-1)) (al i) (k + 1)) = nI 0 from bI_f (fun q => hasS_ne h2a hk1 (by rw [← dgb_hi (md := m1) (by omega) (by omega)]; exact c_108) q.2)]; exact hl) | (rw [show bI (hasL wt i (sha fi (fun i7 => bf i7 &&& nI 255)) (crM bf fi ^^^ (-1)) (al i) 32 ∧ hasS wt i (sha fi (fun i7 => bf i7 &&& nI 255)) (crM bf fi ^^^ (-1)) (al i) (k + 1)) = nI 1 from bI_t ⟨(bI_nz c_88).1, hasS_eq h2a (bI_nz c_88).2 (by rw [← dgb_hi (md := m1) (by omega) (by omega)]; exact c_108)⟩]; exact hl))
  have P_62 : ∀ (b1 : Nat → Int32) (w1 : Nat → Int32) (v1 : Nat → Int32) (h1 : Nat → Int32) (m1 : Nat → Int32) (H : Heap) (locs : List Loc) (ls : Array Slot), (∀ i, i < fi → b1 i = bf i) → xw D vwCl N ad B s.heap (va_up (va_up (va_up (va_up (va_up f 319 (ai (ca 1) 320 b1)) 321 (ai (ca 0) 64 w1)) 323 (ai (ca 0) 8 v1)) 322 (ai (ca 0) 8 h1)) 320 (ai (ca 1) 36 m1)) H locs → lv_has ls 4 [(0, .ref (ad 302)), (1, .int (nI i)), (2, .int (bI (hasL wt i (sha fi (fun i7 => bf i7 &&& nI 255)) (crM bf fi ^^^ (-1)) (al i) 32)))] → W p l e rmX6_has s m ([.ref (ad 302), .int (nI i)] : List Value).toArray below meth c H locs 0 0 (MQ below (xQi (fun r u => ∃ b1 : Nat → Int32, ∃ w1 : Nat → Int32, ∃ v1 : Nat → Int32, ∃ h1 : Nat → Int32, ∃ m1 : Nat → Int32, (∀ i, i < fi → b1 i = bf i) ∧ bI (hasM wt i (sha fi (fun i7 => bf i7 &&& nI 255)) (crM bf fi ^^^ (-1)) (al i)) = r ∧ u = va_up (va_up (va_up (va_up (va_up f 319 (ai (ca 1) 320 b1)) 321 (ai (ca 0) 64 w1)) 323 (ai (ca 0) 8 v1)) 322 (ai (ca 0) 8 h1)) 320 (ai (ca 1) 36 m1)) D N ad B) ([.ref (ad 302), .int (nI i)] : List Value).toArray s 0 0 (xA B)) (F0 m 62 ls []) := by
    intro b1 w1 v1 h1 m1 H locs ls hb1 hw hl
    have c_302 := b_302
    have c_306 := b_306
    have c_307 := b_307
    have c_319 := b_319
    have c_320 := b_320
    have c_321 := b_321
    have c_322 := b_322
    have c_323 := b_323
    have c_324 := b_324
    have c_325 := b_325
    obtain ⟨f_3, ef_3⟩ : ∃ z, z = va_up (va_up (va_up (va_up (va_up f 319 (ai (ca 1) 320 b1)) 321 (ai (ca 0) 64 w1)) 323 (ai (ca 0) 8 v1)) 322 (ai (ca 0) 8 h1)) 320 (ai (ca 1) 36 m1) := ⟨_, rfl⟩
    have hw : xw D vwCl N ad B s.heap f_3 H locs := by rw [ef_3]; exact hw
    have c_319 : f_3 319 = ai (ca 1) 320 b1 := by rw [ef_3, va_up_ne _ _ (by decide), va_up_ne _ _ (by decide), va_up_ne _ _ (by decide), va_up_ne _ _ (by decide), va_up_self]
    have c_321 : f_3 321 = ai (ca 0) 64 w1 := by rw [ef_3, va_up_ne _ _ (by decide), va_up_ne _ _ (by decide), va_up_ne _ _ (by decide), va_up_self]
    have c_323 : f_3 323 = ai (ca 0) 8 v1 := by rw [ef_3, va_up_ne _ _ (by decide), va_up_ne _ _ (by decide), va_up_self]
    have c_322 : f_3 322 = ai (ca 0) 8 h1 := by rw [ef_3, va_up_ne _ _ (by decide), va_up_self]
    have c_320 : f_3 320 = ai (ca 1) 36 m1 := by rw [ef_3, va_up_self]
    refine lv_aload_n hx hb dX6_has_62 rfl (lv_at hl 0 rfl) ?_
    have c_302 : f_3 302 = .inr (7, mO ad th cap cl fs wk td rw sh fi) := by rw [ef_3, va_up_ne _ _ (by decide), va_up_ne _ _ (by decide), va_up_ne _ _ (by decide), va_up_ne _ _ (by decide), va_up_ne _ _ (by decide)]; exact c_302
    refine x_get (ci := 7) (C := RX6) (T := TX6) (n := 32) (ref := RX6) hx hb hts hin_7 hown hK hw 302 (by omega) c_302 rfl 7 (by decide) hf_20 (fun _ h => h) rfl dX6_has_63 ?_
    refine lv_iload_n hx hb dX6_has_66 rfl (lv_at hl 1 rfl) ?_
    have c_306 : f_3 306 = ai (ca 0) 20 al := by rw [ef_3, va_up_ne _ _ (by decide), va_up_ne _ _ (by decide), va_up_ne _ _ (by decide), va_up_ne _ _ (by decide), va_up_ne _ _ (by decide)]; exact c_306
    refine x_iald (j := i) hx hb hK hw 306 0 (by omega) c_306 rfl rfl (by omega) (by decide) dX6_has_67 ?_
    refine lv_iconst (v := nI 2) hx hb dX6_has_68 (by decide) ?_
    refine lv_iand hx hb dX6_has_69 ?_
    refine lv_iconst (v := nI 2) hx hb dX6_has_70 (by decide) ?_
    refine lv_icmp_ne (tgt := 123) hx hb dX6_has_71 (by decide) (fun c_71 => ?_) (fun c_71 => ?_)
    · have hw : xw D vwCl N ad B s.heap (va_up (va_up (va_up (va_up (va_up f 319 (ai (ca 1) 320 b1)) 321 (ai (ca 0) 64 w1)) 323 (ai (ca 0) 8 v1)) 322 (ai (ca 0) 8 h1)) 320 (ai (ca 1) 36 m1)) H locs := by
        have ez : f_3 = va_up (va_up (va_up (va_up (va_up f 319 (ai (ca 1) 320 b1)) 321 (ai (ca 0) 64 w1)) 323 (ai (ca 0) 8 v1)) 322 (ai (ca 0) 8 h1)) 320 (ai (ca 1) 36 m1) := by simp only [ef_3]
        rw [← ez]; exact hw
      exact P_123 b1 w1 v1 h1 m1 _ _ _ hb1 hw (by have hl := lv_sub (l' := [(0, .ref (ad 302)), (2, .int (bI (hasL wt i (sha fi (fun i7 => bf i7 &&& nI 255)) (crM bf fi ^^^ (-1)) (al i) 32)))]) hl [0, 2] rfl; rw [show bI (hasL wt i (sha fi (fun i7 => bf i7 &&& nI 255)) (crM bf fi ^^^ (-1)) (al i) 32 ∧ hasS wt i (sha fi (fun i7 => bf i7 &&& nI 255)) (crM bf fi ^^^ (-1)) (al i) 36) = bI (hasL wt i (sha fi (fun i7 => bf i7 &&& nI 255)) (crM bf fi ^^^ (-1)) (al i) 32) from bI_iff ⟨fun q => q.1, fun q => ⟨q, fun z => absurd z c_71⟩⟩]; exact hl)
    · refine lv_aload_n hx hb dX6_has_74 rfl (lv_at hl 0 rfl) ?_
      refine x_Vv (q := 302) (As := []) (rest := []) ⟨hx, hb, hml, hown, hts⟩ (k_X6_short1 l D ca N ad B tR tK f_3 dd th cap cl fs wk td rw sh fi b1 m1 c_302 c_319 c_320  (by omega) (by omega)) (cwV 0 hts gX6_has_X6_short1 rfl rfl rfl (by decide +kernel) ⟨Nat.le_of_ble_eq_true rfl, Nat.le_of_ble_eq_true rfl⟩) hK hE hB hw (by omega) c_302 rfl rfl rfl rfl hl.1 (Nat.le_of_ble_eq_true rfl) ⟨Nat.zero_le _, Nat.zero_le _⟩ dX6_has_75 (fun f_4 H locs hp hw => ?_)
      have eu := hp
      have ef_4 : f_4 = va_up f_3 320 (ai (ca 1) 36 (mkS m1 (crM b1 fi ^^^ (-1)) 4)) := eu
      have c_320 : f_4 320 = ai (ca 1) 36 (mkS m1 (crM b1 fi ^^^ (-1)) 4) := by rw [ef_4, va_up_self]
      refine lv_bipush (v := nI 32) hx hb dX6_has_78 (by decide) ?_
      refine lv_istore_n (lv' := [(3, .int (nI 32)), (0, .ref (ad 302)), (1, .int (nI i)), (2, .int (bI (hasL wt i (sha fi (fun i7 => bf i7 &&& nI 255)) (crM bf fi ^^^ (-1)) (al i) 32)))]) hx hb dX6_has_80 rfl hl (by decide) rfl (fun ls hl => ?_)
      have hw : xw D vwCl N ad B s.heap (va_up (va_up (va_up (va_up (va_up f 319 (ai (ca 1) 320 b1)) 321 (ai (ca 0) 64 w1)) 323 (ai (ca 0) 8 v1)) 322 (ai (ca 0) 8 h1)) 320 (ai (ca 1) 36 (mkS m1 (crM bf fi ^^^ (-1)) 4))) H locs := by
        have ez : f_4 = va_up (va_up (va_up (va_up (va_up f 319 (ai (ca 1) 320 b1)) 321 (ai (ca 0) 64 w1)) 323 (ai (ca 0) 8 v1)) 322 (ai (ca 0) 8 h1)) 320 (ai (ca 1) 36 (mkS m1 (crM bf fi ^^^ (-1)) 4)) := by rw [show crM bf fi = crM b1 fi from (crM_ext fi (fun q hq => by rw [hb1 q hq])).symm]; simp only [ef_4, ef_3, up_aa]
        rw [← ez]; exact hw
      exact P_81 5 b1 w1 v1 h1 m1 32 _ _ _ (by omega) hb1 c_71 (by omega) (by omega) hw (by have hl := lv_sub (l' := [(0, .ref (ad 302)), (1, .int (nI i)), (2, .int (bI (hasL wt i (sha fi (fun i7 => bf i7 &&& nI 255)) (crM bf fi ^^^ (-1)) (al i) 32))), (3, .int (nI 32))]) hl [1, 2, 3, 0] rfl; rw [show bI (hasL wt i (sha fi (fun i7 => bf i7 &&& nI 255)) (crM bf fi ^^^ (-1)) (al i) 32 ∧ hasS wt i (sha fi (fun i7 => bf i7 &&& nI 255)) (crM bf fi ^^^ (-1)) (al i) 32) = bI (hasL wt i (sha fi (fun i7 => bf i7 &&& nI 255)) (crM bf fi ^^^ (-1)) (al i) 32) from bI_iff ⟨fun q => q.1, fun q => ⟨q, fun _ j h3 h4 => absurd h4 (by omega)⟩⟩]; exact hl)
  have P_20 : ∀ (n_20 : Nat) (b1 : Nat → Int32) (w1 : Nat → Int32) (v1 : Nat → Int32) (h1 : Nat → Int32) (k : Nat) (H : Heap) (locs : List Loc) (ls : Array Slot), 32 + 1 ≤ k + n_20 → (∀ i, i < fi → b1 i = bf i) → (al i &&& nI 1 = nI 1) → (k ≤ 32) → xw D vwCl N ad B s.heap (va_up (va_up (va_up (va_up (va_up f 319 (ai (ca 1) 320 b1)) 321 (ai (ca 0) 64 w1)) 323 (ai (ca 0) 8 v1)) 322 (ai (ca 0) 8 h1)) 320 (ai (ca 1) 36 (mkf md (sha fi (fun i7 => bf i7 &&& nI 255)) 32))) H locs → lv_has ls 4 [(0, .ref (ad 302)), (1, .int (nI i)), (2, .int (bI (hasL wt i (sha fi (fun i7 => bf i7 &&& nI 255)) (crM bf fi ^^^ (-1)) (al i) k))), (3, .int (nI k))] → W p l e rmX6_has s m ([.ref (ad 302), .int (nI i)] : List Value).toArray below meth c H locs 0 0 (MQ below (xQi (fun r u => ∃ b1 : Nat → Int32, ∃ w1 : Nat → Int32, ∃ v1 : Nat → Int32, ∃ h1 : Nat → Int32, ∃ m1 : Nat → Int32, (∀ i, i < fi → b1 i = bf i) ∧ bI (hasM wt i (sha fi (fun i7 => bf i7 &&& nI 255)) (crM bf fi ^^^ (-1)) (al i)) = r ∧ u = va_up (va_up (va_up (va_up (va_up f 319 (ai (ca 1) 320 b1)) 321 (ai (ca 0) 64 w1)) 323 (ai (ca 0) 8 v1)) 322 (ai (ca 0) 8 h1)) 320 (ai (ca 1) 36 m1)) D N ad B) ([.ref (ad 302), .int (nI i)] : List Value).toArray s 0 0 (xA B)) (F0 m 20 ls []) := by
    intro n_20
    induction n_20 with
    | zero =>
      intro b1 w1 v1 h1 k H locs ls hm_20 hb1 h1a hk hw hl
      exact absurd hm_20 (by omega)
    | succ n_20 ih_20 =>
      intro b1 w1 v1 h1 k H locs ls hm_20 hb1 h1a hk hw hl
      have c_302 := b_302
      have c_306 := b_306
      have c_307 := b_307
      have c_319 := b_319
      have c_320 := b_320
      have c_321 := b_321
      have c_322 := b_322
      have c_323 := b_323
      have c_324 := b_324
      have c_325 := b_325
      obtain ⟨f_6, ef_6⟩ : ∃ z, z = va_up (va_up (va_up (va_up (va_up f 319 (ai (ca 1) 320 b1)) 321 (ai (ca 0) 64 w1)) 323 (ai (ca 0) 8 v1)) 322 (ai (ca 0) 8 h1)) 320 (ai (ca 1) 36 (mkf md (sha fi (fun i7 => bf i7 &&& nI 255)) 32)) := ⟨_, rfl⟩
      have hw : xw D vwCl N ad B s.heap f_6 H locs := by rw [ef_6]; exact hw
      have c_319 : f_6 319 = ai (ca 1) 320 b1 := by rw [ef_6, va_up_ne _ _ (by decide), va_up_ne _ _ (by decide), va_up_ne _ _ (by decide), va_up_ne _ _ (by decide), va_up_self]
      have c_321 : f_6 321 = ai (ca 0) 64 w1 := by rw [ef_6, va_up_ne _ _ (by decide), va_up_ne _ _ (by decide), va_up_ne _ _ (by decide), va_up_self]
      have c_323 : f_6 323 = ai (ca 0) 8 v1 := by rw [ef_6, va_up_ne _ _ (by decide), va_up_ne _ _ (by decide), va_up_self]
      have c_322 : f_6 322 = ai (ca 0) 8 h1 := by rw [ef_6, va_up_ne _ _ (by decide), va_up_self]
      have c_320 : f_6 320 = ai (ca 1) 36 (mkf md (sha fi (fun i7 => bf i7 &&& nI 255)) 32) := by rw [ef_6, va_up_self]
      refine lv_iload_n hx hb dX6_has_20 rfl (lv_at hl 3 rfl) ?_
      refine lv_bipush (v := nI 32) hx hb dX6_has_21 (by decide) ?_
      refine n_icge (tgt := 62) hx hb dX6_has_23 (by decide) (by omega) (by omega) (fun c_23 => ?_) (fun c_23 => ?_)
      · have hw : xw D vwCl N ad B s.heap (va_up (va_up (va_up (va_up (va_up f 319 (ai (ca 1) 320 b1)) 321 (ai (ca 0) 64 w1)) 323 (ai (ca 0) 8 v1)) 322 (ai (ca 0) 8 h1)) 320 (ai (ca 1) 36 (mkf md (sha fi (fun i7 => bf i7 &&& nI 255)) 32))) H locs := by
          have ez : f_6 = va_up (va_up (va_up (va_up (va_up f 319 (ai (ca 1) 320 b1)) 321 (ai (ca 0) 64 w1)) 323 (ai (ca 0) 8 v1)) 322 (ai (ca 0) 8 h1)) 320 (ai (ca 1) 36 (mkf md (sha fi (fun i7 => bf i7 &&& nI 255)) 32)) := by simp only [ef_6]
          rw [← ez]; exact hw
        exact P_62 b1 w1 v1 h1 (mkf md (sha fi (fun i7 => bf i7 &&& nI 255)) 32) _ _ _ hb1 hw (by have hl := lv_sub (l' := [(0, .ref (ad 302)), (1, .int (nI i)), (2, .int (bI (hasL wt i (sha fi (fun i7 => bf i7 &&& nI 255)) (crM bf fi ^^^ (-1)) (al i) k)))]) hl [0, 1, 2] rfl; have ek : k = 32 := (by omega); rw [ek] at hl; exact hl)
      · refine lv_iload_n hx hb dX6_has_26 rfl (lv_at hl 2 rfl) ?_
        refine lv_if_eq (tgt := 54) hx hb dX6_has_27 (by decide) (fun c_27 => ?_) (fun c_27 => ?_)
        · refine lv_iconst (v := nI 0) hx hb dX6_has_54 (by decide) ?_
          refine lv_istore_n (lv' := [(2, .int (nI 0)), (0, .ref (ad 302)), (1, .int (nI i)), (3, .int (nI k))]) hx hb dX6_has_55 rfl hl (by decide) rfl (fun ls hl => ?_)
          refine lv_iinc (v := nI (k + 1)) (lv' := [(3, .int (nI (k + 1))), (2, .int (nI 0)), (0, .ref (ad 302)), (1, .int (nI i))]) hx hb dX6_has_56 hl (k := 3) rfl (by rw [show Int32.ofInt 1 = nI 1 from rfl]; exact nI_add _ _) (by decide) rfl (fun ls hl => ?_)
          refine lv_goto (tgt := 20) hx hb dX6_has_59 (by decide) ?_
          have hw : xw D vwCl N ad B s.heap (va_up (va_up (va_up (va_up (va_up f 319 (ai (ca 1) 320 b1)) 321 (ai (ca 0) 64 w1)) 323 (ai (ca 0) 8 v1)) 322 (ai (ca 0) 8 h1)) 320 (ai (ca 1) 36 (mkf md (sha fi (fun i7 => bf i7 &&& nI 255)) 32))) H locs := by
            have ez : f_6 = va_up (va_up (va_up (va_up (va_up f 319 (ai (ca 1) 320 b1)) 321 (ai (ca 0) 64 w1)) 323 (ai (ca 0) 8 v1)) 322 (ai (ca 0) 8 h1)) 320 (ai (ca 1) 36 (mkf md (sha fi (fun i7 => bf i7 &&& nI 255)) 32)) := by simp only [ef_6]
            rw [← ez]; exact hw
          exact ih_20 b1 w1 v1 h1 (k + 1) _ _ _ (by omega) hb1 h1a (by omega) hw (by have hl := lv_sub (l' := [(0, .ref (ad 302)), (1, .int (nI i)), (2, .int (nI 0)), (3, .int (nI (k + 1)))]) hl [2, 3, 1, 0] rfl; first | (rw [show bI (hasL wt i (sha fi (fun i7 => bf i7 &&& nI 255)) (crM bf fi ^^^ (-1)) (al i) (k + 1)) = nI 0 from bI_f (hasL_no (bI_z c_27))]; exact hl) | (rw [show bI (hasL wt i (sha fi (fun i7 => bf i7 &&& nI 255)) (crM bf fi ^^^ (-1)) (al i) (k + 1)) = nI 0 from bI_f (hasL_ne h1a (by rw [← dgb_lo (md := md) (by omega)]; exact c_47))]; exact hl) | (rw [show bI (hasL wt i (sha fi (fun i7 => bf i7 &&& nI 255)) (crM bf fi ^^^ (-1)) (al i) (k + 1)) = nI 1 from bI_t (hasL_eq h1a (bI_nz c_27) (by rw [← dgb_lo (md := md) (by omega)]; exact c_47))]; exact hl))
        · refine lv_aload_n hx hb dX6_has_30 rfl (lv_at hl 0 rfl) ?_
          have c_302 : f_6 302 = .inr (7, mO ad th cap cl fs wk td rw sh fi) := by rw [ef_6, va_up_ne _ _ (by decide), va_up_ne _ _ (by decide), va_up_ne _ _ (by decide), va_up_ne _ _ (by decide), va_up_ne _ _ (by decide)]; exact c_302
          refine x_get (ci := 7) (C := RX6) (T := TX6) (n := 32) (ref := RX6) hx hb hts hin_7 hown hK hw 302 (by omega) c_302 rfl 26 (by decide) hf_67 (fun _ h => h) rfl dX6_has_31 ?_
          refine lv_iload_n hx hb dX6_has_34 rfl (lv_at hl 3 rfl) ?_
          refine x_bald (j := k) hx hb hK hw 320 1 (by omega) c_320 rfl rfl (by omega) (by decide) dX6_has_35 ?_
          refine lv_aload_n hx hb dX6_has_36 rfl (lv_at hl 0 rfl) ?_
          refine x_get (ci := 7) (C := RX6) (T := TX6) (n := 32) (ref := RX6) hx hb hts hin_7 hown hK hw 302 (by omega) c_302 rfl 8 (by decide) hf_23 (fun _ h => h) rfl dX6_has_37 ?_
          refine lv_bipush (v := nI 36) hx hb dX6_has_40 (by decide) ?_
          refine lv_iload_n hx hb dX6_has_42 rfl (lv_at hl 1 rfl) ?_
          refine n_imul hx hb dX6_has_43 ?_
          refine lv_iload_n hx hb dX6_has_44 rfl (lv_at hl 3 rfl) ?_
          refine n_iadd hx hb dX6_has_45 ?_
          have c_307 : f_6 307 = ai (ca 1) 720 wt := by rw [ef_6, va_up_ne _ _ (by decide), va_up_ne _ _ (by decide), va_up_ne _ _ (by decide), va_up_ne _ _ (by decide), va_up_ne _ _ (by decide)]; exact c_307
          refine x_bald (j := (36 * i) + k) hx hb hK hw 307 1 (by omega) c_307 rfl rfl (by omega) (by decide) dX6_has_46 ?_
          refine lv_icmp_ne (tgt := 54) hx hb dX6_has_47 (by decide) (fun c_47 => ?_) (fun c_47 => ?_)
          · refine lv_iconst (v := nI 0) hx hb dX6_has_54 (by decide) ?_
            refine lv_istore_n (lv' := [(2, .int (nI 0)), (0, .ref (ad 302)), (1, .int (nI i)), (3, .int (nI k))]) hx hb dX6_has_55 rfl hl (by decide) rfl (fun ls hl => ?_)
            refine lv_iinc (v := nI (k + 1)) (lv' := [(3, .int (nI (k + 1))), (2, .int (nI 0)), (0, .ref (ad 302)), (1, .int (nI i))]) hx hb dX6_has_56 hl (k := 3) rfl (by rw [show Int32.ofInt 1 = nI 1 from rfl]; exact nI_add _ _) (by decide) rfl (fun ls hl => ?_)
            refine lv_goto (tgt := 20) hx hb dX6_has_59 (by decide) ?_
            have hw : xw D vwCl N ad B s.heap (va_up (va_up (va_up (va_up (va_up f 319 (ai (ca 1) 320 b1)) 321 (ai (ca 0) 64 w1)) 323 (ai (ca 0) 8 v1)) 322 (ai (ca 0) 8 h1)) 320 (ai (ca 1) 36 (mkf md (sha fi (fun i7 => bf i7 &&& nI 255)) 32))) H locs := by
              have ez : f_6 = va_up (va_up (va_up (va_up (va_up f 319 (ai (ca 1) 320 b1)) 321 (ai (ca 0) 64 w1)) 323 (ai (ca 0) 8 v1)) 322 (ai (ca 0) 8 h1)) 320 (ai (ca 1) 36 (mkf md (sha fi (fun i7 => bf i7 &&& nI 255)) 32)) := by simp only [ef_6]
              rw [← ez]; exact hw
            exact ih_20 b1 w1 v1 h1 (k + 1) _ _ _ (by omega) hb1 h1a (by omega) hw (by have hl := lv_sub (l' := [(0, .ref (ad 302)), (1, .int (nI i)), (2, .int (nI 0)), (3, .int (nI (k + 1)))]) hl [2, 3, 1, 0] rfl; first | (rw [show bI (hasL wt i (sha fi (fun i7 => bf i7 &&& nI 255)) (crM bf fi ^^^ (-1)) (al i) (k + 1)) = nI 0 from bI_f (hasL_no (bI_z c_27))]; exact hl) | (rw [show bI (hasL wt i (sha fi (fun i7 => bf i7 &&& nI 255)) (crM bf fi ^^^ (-1)) (al i) (k + 1)) = nI 0 from bI_f (hasL_ne h1a (by rw [← dgb_lo (md := md) (by omega)]; exact c_47))]; exact hl) | (rw [show bI (hasL wt i (sha fi (fun i7 => bf i7 &&& nI 255)) (crM bf fi ^^^ (-1)) (al i) (k + 1)) = nI 1 from bI_t (hasL_eq h1a (bI_nz c_27) (by rw [← dgb_lo (md := md) (by omega)]; exact c_47))]; exact hl))
          · refine lv_iconst (v := nI 1) hx hb dX6_has_50 (by decide) ?_
            refine lv_goto (tgt := 55) hx hb dX6_has_51 (by decide) ?_
            refine lv_istore_n (lv' := [(2, .int (nI 1)), (0, .ref (ad 302)), (1, .int (nI i)), (3, .int (nI k))]) hx hb dX6_has_55 rfl hl (by decide) rfl (fun ls hl => ?_)
            refine lv_iinc (v := nI (k + 1)) (lv' := [(3, .int (nI (k + 1))), (2, .int (nI 1)), (0, .ref (ad 302)), (1, .int (nI i))]) hx hb dX6_has_56 hl (k := 3) rfl (by rw [show Int32.ofInt 1 = nI 1 from rfl]; exact nI_add _ _) (by decide) rfl (fun ls hl => ?_)
            refine lv_goto (tgt := 20) hx hb dX6_has_59 (by decide) ?_
            have hw : xw D vwCl N ad B s.heap (va_up (va_up (va_up (va_up (va_up f 319 (ai (ca 1) 320 b1)) 321 (ai (ca 0) 64 w1)) 323 (ai (ca 0) 8 v1)) 322 (ai (ca 0) 8 h1)) 320 (ai (ca 1) 36 (mkf md (sha fi (fun i7 => bf i7 &&& nI 255)) 32))) H locs := by
              have ez : f_6 = va_up (va_up (va_up (va_up (va_up f 319 (ai (ca 1) 320 b1)) 321 (ai (ca 0) 64 w1)) 323 (ai (ca 0) 8 v1)) 322 (ai (ca 0) 8 h1)) 320 (ai (ca 1) 36 (mkf md (sha fi (fun i7 => bf i7 &&& nI 255)) 32)) := by simp only [ef_6]
              rw [← ez]; exact hw
            exact ih_20 b1 w1 v1 h1 (k + 1) _ _ _ (by omega) hb1 h1a (by omega) hw (by have hl := lv_sub (l' := [(0, .ref (ad 302)), (1, .int (nI i)), (2, .int (nI 1)), (3, .int (nI (k + 1)))]) hl [2, 3, 1, 0] rfl; first | (rw [show bI (hasL wt i (sha fi (fun i7 => bf i7 &&& nI 255)) (crM bf fi ^^^ (-1)) (al i) (k + 1)) = nI 0 from bI_f (hasL_no (bI_z c_27))]; exact hl) | (rw [show bI (hasL wt i (sha fi (fun i7 => bf i7 &&& nI 255)) (crM bf fi ^^^ (-1)) (al i) (k + 1)) = nI 0 from bI_f (hasL_ne h1a (by rw [← dgb_lo (md := md) (by omega)]; exact c_47))]; exact hl) | (rw [show bI (hasL wt i (sha fi (fun i7 => bf i7 &&& nI 255)) (crM bf fi ^^^ (-1)) (al i) (k + 1)) = nI 1 from bI_t (hasL_eq h1a (bI_nz c_27) (by rw [← dgb_lo (md := md) (by omega)]; exact c_47))]; exact hl))
  refine lv_iconst (v := nI 1) hx hb dX6_has_0 (by decide) ?_
  refine lv_istore_n (lv' := [(2, .int (nI 1)), (0, .ref (ad 302)), (1, .int (nI i))]) hx hb dX6_has_1 rfl hl (by decide) rfl (fun ls hl => ?_)
  refine lv_aload_n hx hb dX6_has_2 rfl (lv_at hl 1 rfl) ?_
  refine x_get (ci := 7) (C := RX6) (T := TX6) (n := 32) (ref := RX6) hx hb hts hin_7 hown hK hw 302 (by omega) c_302 rfl 7 (by decide) hf_20 (fun _ h => h) rfl dX6_has_3 ?_
  refine lv_iload_n hx hb dX6_has_6 rfl (lv_at hl 2 rfl) ?_
  refine x_iald (j := i) hx hb hK hw 306 0 (by omega) c_306 rfl rfl (by omega) (by decide) dX6_has_7 ?_
  refine lv_iconst (v := nI 1) hx hb dX6_has_8 (by decide) ?_
  refine lv_iand hx hb dX6_has_9 ?_
  refine lv_iconst (v := nI 1) hx hb dX6_has_10 (by decide) ?_
  refine lv_icmp_ne (tgt := 62) hx hb dX6_has_11 (by decide) (fun c_11 => ?_) (fun c_11 => ?_)
  · have hw : xw D vwCl N ad B s.heap (va_up (va_up (va_up (va_up (va_up f 319 (ai (ca 1) 320 bf)) 321 (ai (ca 0) 64 ww)) 323 (ai (ca 0) 8 vv)) 322 (ai (ca 0) 8 hh)) 320 (ai (ca 1) 36 md)) s.heap [] := by
      have ez : f = va_up (va_up (va_up (va_up (va_up f 319 (ai (ca 1) 320 bf)) 321 (ai (ca 0) 64 ww)) 323 (ai (ca 0) 8 vv)) 322 (ai (ca 0) 8 hh)) 320 (ai (ca 1) 36 md) := by rw [← b_319, up_same, ← b_321, up_same, ← b_323, up_same, ← b_322, up_same, ← b_320, up_same]
      rw [← ez]; exact hw
    exact P_62 bf ww vv hh md _ _ _ (fun _ _ => rfl) hw (by have hl := lv_sub (l' := [(0, .ref (ad 302)), (1, .int (nI i)), (2, .int (nI 1))]) hl [1, 2, 0] rfl; rw [show bI (hasL wt i (sha fi (fun i7 => bf i7 &&& nI 255)) (crM bf fi ^^^ (-1)) (al i) 32) = nI 1 from bI_t (fun q => absurd q c_11)]; exact hl)
  · refine lv_aload_n hx hb dX6_has_14 rfl (lv_at hl 1 rfl) ?_
    refine x_Vv (q := 302) (As := []) (rest := []) ⟨hx, hb, hml, hown, hts⟩ (k_X6_long1 l D ca N ad B tR tK f dd th cap cl fs wk td rw sh fi bf md ww hh vv c_302 c_319 c_320 c_321 c_322 c_323 c_324 c_325  (by omega) (by omega)) (cwV 0 hts gX6_has_X6_long1 rfl rfl rfl (by decide +kernel) ⟨Nat.le_of_ble_eq_true rfl, Nat.le_of_ble_eq_true rfl⟩) hK hE hB hw (by omega) c_302 rfl rfl rfl rfl hl.1 (Nat.le_of_ble_eq_true rfl) ⟨Nat.zero_le _, Nat.zero_le _⟩ dX6_has_15 (fun f_7 H locs hp hw => ?_)
    obtain ⟨b1_9, w1_10, v1_11, h1_12, hq_13, eu⟩ := hp
    have ef_7 : f_7 = va_up (va_up (va_up (va_up (va_up f 319 (ai (ca 1) 320 b1_9)) 321 (ai (ca 0) 64 w1_10)) 323 (ai (ca 0) 8 v1_11)) 322 (ai (ca 0) 8 h1_12)) 320 (ai (ca 1) 36 (mkf md (sha fi (fun i7 => bf i7 &&& nI 255)) 32)) := eu
    have c_319 : f_7 319 = ai (ca 1) 320 b1_9 := by rw [ef_7, va_up_ne _ _ (by decide), va_up_ne _ _ (by decide), va_up_ne _ _ (by decide), va_up_ne _ _ (by decide), va_up_self]
    have c_321 : f_7 321 = ai (ca 0) 64 w1_10 := by rw [ef_7, va_up_ne _ _ (by decide), va_up_ne _ _ (by decide), va_up_ne _ _ (by decide), va_up_self]
    have c_323 : f_7 323 = ai (ca 0) 8 v1_11 := by rw [ef_7, va_up_ne _ _ (by decide), va_up_ne _ _ (by decide), va_up_self]
    have c_322 : f_7 322 = ai (ca 0) 8 h1_12 := by rw [ef_7, va_up_ne _ _ (by decide), va_up_self]
    have c_320 : f_7 320 = ai (ca 1) 36 (mkf md (sha fi (fun i7 => bf i7 &&& nI 255)) 32) := by rw [ef_7, va_up_self]
    refine lv_iconst (v := nI 0) hx hb dX6_has_18 (by decide) ?_
    refine lv_istore_n (lv' := [(3, .int (nI 0)), (2, .int (nI 1)), (0, .ref (ad 302)), (1, .int (nI i))]) hx hb dX6_has_19 rfl hl (by decide) rfl (fun ls hl => ?_)
    have hw : xw D vwCl N ad B s.heap (va_up (va_up (va_up (va_up (va_up f 319 (ai (ca 1) 320 b1_9)) 321 (ai (ca 0) 64 w1_10)) 323 (ai (ca 0) 8 v1_11)) 322 (ai (ca 0) 8 h1_12)) 320 (ai (ca 1) 36 (mkf md (sha fi (fun i7 => bf i7 &&& nI 255)) 32))) H locs := by
      have ez : f_7 = va_up (va_up (va_up (va_up (va_up f 319 (ai (ca 1) 320 b1_9)) 321 (ai (ca 0) 64 w1_10)) 323 (ai (ca 0) 8 v1_11)) 322 (ai (ca 0) 8 h1_12)) 320 (ai (ca 1) 36 (mkf md (sha fi (fun i7 => bf i7 &&& nI 255)) 32)) := by simp only [ef_7]
      rw [← ez]; exact hw
    exact P_20 33 b1_9 w1_10 v1_11 h1_12 0 _ _ _ (by omega) hq_13 c_11 (by omega) hw (by have hl := lv_sub (l' := [(0, .ref (ad 302)), (1, .int (nI i)), (2, .int (nI 1)), (3, .int (nI 0))]) hl [2, 3, 1, 0] rfl; rw [show bI (hasL wt i (sha fi (fun i7 => bf i7 &&& nI 255)) (crM bf fi ^^^ (-1)) (al i) 0) = nI 1 from bI_t (fun _ j hj => absurd hj (by omega))]; exact hl)
