/-! ===== the reference's ALGORITHM 1, and its small steps ===== -/
def crM (b : Nat → Int32) : Nat → Int32
  | 0 => (-1)
  | i + 1 => crcN (crM b i ^^^ (b i &&& nI 255)) 8
theorem and1 (x : Int32) : x &&& nI 1 = 0 ∨ x &&& nI 1 = nI 1 := by
  obtain ⟨j, hj, e⟩ := pk_andE x (m := nI 1) 1 (by decide)
  rw [e]
  rcases (show j = 0 ∨ j = 1 by omega) with rfl | rfl
  · exact Or.inl rfl
  · exact Or.inr rfl
theorem crcN_even {x : Int32} {k : Nat} (h : ¬ crcN x k &&& nI 1 = nI 1) : crcN x (k + 1) = jushr (crcN x k) (nI 1) := if_pos ((and1 _).resolve_right h)
theorem crcN_odd {x : Int32} {k : Nat} (h : crcN x k &&& nI 1 = nI 1) : crcN x (k + 1) = jushr (crcN x k) (nI 1) ^^^ (-306674912) := if_neg (by rw [h]; decide)
def mkS (md : Nat → Int32) (r : Int32) (k : Nat) : Nat → Int32 := fun x => if 32 ≤ x ∧ x < 32 + k then (jushr r (nI (24 - 8 * (x - 32)))).toInt8.toInt32 else md x
theorem mkS_0 (md : Nat → Int32) (r : Int32) : mkS md r 0 = md := by
  funext x
  exact if_neg (by omega)
theorem mkS_s (md : Nat → Int32) (r : Int32) (k : Nat) : upd (mkS md r k) (32 + k) (jushr r (nI (24 - 8 * k))).toInt8.toInt32 = mkS md r (k + 1) := by
  funext x
  by_cases e : x = 32 + k
  · subst e
    rw [pk_us]
    unfold mkS
    rw [if_pos (by omega), Nat.add_sub_cancel_left]
  · rw [pk_un e]
    unfold mkS
    by_cases h : 32 ≤ x ∧ x < 32 + k
    · rw [if_pos h, if_pos (by omega)]
    · rw [if_neg h, if_neg (by omega)]
def cpB (bf sa : Nat → Int32) (k : Nat) : Nat → Int32 := fun x => if x < k then (sa x).toInt8.toInt32 else bf x
theorem cpB_0 (bf sa : Nat → Int32) : cpB bf sa 0 = bf := by
  funext x
  exact if_neg (by omega)
theorem cpB_s (bf sa : Nat → Int32) (k : Nat) : upd (cpB bf sa k) k (sa k).toInt8.toInt32 = cpB bf sa (k + 1) := by
  funext x
  by_cases e : x = k
  · subst e
    rw [pk_us]
    exact (if_pos (by omega)).symm
  · rw [pk_un e]
    unfold cpB
    by_cases h : x < k
    · rw [if_pos h, if_pos (by omega)]
    · rw [if_neg h, if_neg (by omega)]
def nbr (bf : Nat → Int32) (k : Nat) (x : Int32) : Nat → Int32 := upd (upd (upd (upd bf k (jushr x (nI (24 - 8 * 0))).toInt8.toInt32) (k + 1) (jushr x (nI (24 - 8 * 1))).toInt8.toInt32) (k + 1 + 1) (jushr x (nI (24 - 8 * 2))).toInt8.toInt32) (k + 1 + 1 + 1) (jushr x (nI (24 - 8 * 3))).toInt8.toInt32

abbrev rmX6_short1 : Room := { frames := 0, cells := 0, slots := 0, locals := 0 }

set_option maxHeartbeats 4000000 in
set_option maxRecDepth 100000 in
theorem k_X6_short1 (l : Launch) (D : va_G) (ca : Nat → ClassId) (N : Nat) (ad : Nat → Nat) (B tR tK : Nat) (f : Nat → va_E) (dd : xD N ad B) (th : Nat) (cap : Nat) (cl : Nat) (fs : Nat) (wk : Int32) (td : Nat) (rw : Nat) (sh : Nat) (fi : Nat) (bf : Nat → Int32) (md : Nat → Int32) (c_302 : f 302 = .inr (7, mO ad th cap cl fs wk td rw sh fi)) (c_319 : f 319 = ai (ca 1) 320 bf) (c_320 : f 320 = ai (ca 1) 36 md)  (hN : 326 ≤ N) (hf : fi ≤ 200) : xMv l yX6_short1 wsX6_short1 rmX6_short1 [.ref (ad 302)] D ca N ad B tR tK f (fun u => u = va_up f 320 (ai (ca 1) 36 (mkS md (crM bf fi ^^^ (-1)) 4))) := by
  refine x_open (cc := cX6_short1) (maxL := 4) (ret := none) (by decide) rfl (Nat.le_of_ble_eq_true rfl) ?_
  intro p e s m below meth c ls hx hb hml hown hts hr hlocks hnm hB hK hE hw hl
  have hown : s.vm.findClass RX6 = some m.cls := hown
  have hl : lv_has ls 4 [(0, .ref (ad 302))] := hl
  have hin_7 : ∀ w ∈ u_ws RX6 TX6 32, w ∈ wsX6_short1 := by decide +kernel
  have hf_67 := hts (.fieldLink RX6 67 "FixityRowsModel" "made" "[B") (by decide +kernel)
  have hf_179 := hts (.fieldLink RX6 179 "FixityRowsModel" "filled" "I") (by decide +kernel)
  have hf_64 := hts (.fieldLink RX6 64 "FixityRowsModel" "buffer" "[B") (by decide +kernel)
  have b_302 := c_302
  have b_319 := c_319
  have b_320 := c_320
  have P_67 : ∀ (n_67 : Nat) (k : Nat) (H : Heap) (locs : List Loc) (ls : Array Slot), 4 + 1 ≤ k + n_67 → (k ≤ 4) → xw D vwCl N ad B s.heap (va_up f 320 (ai (ca 1) 36 (mkS md (crM bf fi ^^^ (-1)) k))) H locs → lv_has ls 4 [(0, .ref (ad 302)), (1, .int (crM bf fi)), (2, .int (nI k))] → W p l e rmX6_short1 s m ([.ref (ad 302)] : List Value).toArray below meth c H locs 0 0 (MQ below (xQv (fun u => u = va_up f 320 (ai (ca 1) 36 (mkS md (crM bf fi ^^^ (-1)) 4))) D N ad B) ([.ref (ad 302)] : List Value).toArray s 0 0 (xA B)) (F0 m 67 ls []) := by
    intro n_67
    induction n_67 with
    | zero =>
      intro k H locs ls hm_67 hk hw hl
      exact absurd hm_67 (by omega)
    | succ n_67 ih_67 =>
      intro k H locs ls hm_67 hk hw hl
      have c_302 := b_302
      have c_319 := b_319
      have c_320 := b_320
      obtain ⟨f_1, ef_1⟩ : ∃ z, z = va_up f 320 (ai (ca 1) 36 (mkS md (crM bf fi ^^^ (-1)) k)) := ⟨_, rfl⟩
      have hw : xw D vwCl N ad B s.heap f_1 H locs := by rw [ef_1]; exact hw
      have c_320 : f_1 320 = ai (ca 1) 36 (mkS md (crM bf fi ^^^ (-1)) k) := by rw [ef_1, va_up_self]
      refine lv_iload_n hx hb dX6_short1_67 rfl (lv_at hl 2 rfl) ?_
      refine lv_iconst (v := nI 4) hx hb dX6_short1_68 (by decide) ?_
      refine n_icge (tgt := 99) hx hb dX6_short1_69 (by decide) (by omega) (by omega) (fun c_69 => ?_) (fun c_69 => ?_)
      · exact x_vret hx hb hr hlocks hw (by have ek : k = 4 := (by omega); subst ek; simp only [ef_1]) dX6_short1_99
      · refine lv_aload_n hx hb dX6_short1_72 rfl (lv_at hl 0 rfl) ?_
        have c_302 : f_1 302 = .inr (7, mO ad th cap cl fs wk td rw sh fi) := by rw [ef_1, va_up_ne _ _ (by decide)]; exact c_302
        refine x_get (ci := 7) (C := RX6) (T := TX6) (n := 32) (ref := RX6) hx hb hts hin_7 hown hK hw 302 (by omega) c_302 rfl 26 (by decide) hf_67 (fun _ h => h) rfl dX6_short1_73 ?_
        refine lv_bipush (v := nI 32) hx hb dX6_short1_76 (by decide) ?_
        refine lv_iload_n hx hb dX6_short1_78 rfl (lv_at hl 2 rfl) ?_
        refine n_iadd hx hb dX6_short1_79 ?_
        refine lv_iload_n hx hb dX6_short1_80 rfl (lv_at hl 1 rfl) ?_
        refine lv_iconst (v := (-1)) hx hb dX6_short1_81 (by decide) ?_
        refine lv_ixor hx hb dX6_short1_82 ?_
        refine lv_bipush (v := nI 24) hx hb dX6_short1_83 (by decide) ?_
        refine lv_bipush (v := nI 8) hx hb dX6_short1_85 (by decide) ?_
        refine lv_iload_n hx hb dX6_short1_87 rfl (lv_at hl 2 rfl) ?_
        refine n_imul hx hb dX6_short1_88 ?_
        refine n_isub hx hb dX6_short1_89 (by omega) ?_
        refine n_iushr hx hb dX6_short1_90 ?_
        refine lv_i2b (v := (jushr ((crM bf fi) ^^^ ((-1))) (nI (24 - (8 * k)))).toInt8.toInt32) hx hb dX6_short1_91 rfl ?_
        refine x_bast (j := 32 + k) (y := (jushr ((crM bf fi) ^^^ ((-1))) (nI (24 - (8 * k)))).toInt8.toInt32) hx hb hK dd hw 320 1 (by omega) c_320 rfl rfl (by omega) (by decide) (i8_i8 _) dX6_short1_92 (fun H locs hw => ?_)
        obtain ⟨f_2, ef_2⟩ : ∃ z, z = va_up f_1 320 (ai (ca 1) 36 (upd (mkS md (crM bf fi ^^^ (-1)) k) (32 + k) ((jushr ((crM bf fi) ^^^ ((-1))) (nI (24 - (8 * k)))).toInt8.toInt32))) := ⟨_, rfl⟩
        have hw : xw D vwCl N ad B s.heap f_2 H locs := by rw [ef_2]; exact hw
        have c_320 : f_2 320 = ai (ca 1) 36 (upd (mkS md (crM bf fi ^^^ (-1)) k) (32 + k) ((jushr ((crM bf fi) ^^^ ((-1))) (nI (24 - (8 * k)))).toInt8.toInt32)) := va_up_of ef_2
        refine lv_iinc (v := nI (k + 1)) (lv' := [(2, .int (nI (k + 1))), (0, .ref (ad 302)), (1, .int (crM bf fi))]) hx hb dX6_short1_93 hl (k := 2) rfl (by rw [show Int32.ofInt 1 = nI 1 from rfl]; exact nI_add _ _) (by decide) rfl (fun ls hl => ?_)
        refine lv_goto (tgt := 67) hx hb dX6_short1_96 (by decide) ?_
        have hw : xw D vwCl N ad B s.heap (va_up f 320 (ai (ca 1) 36 (mkS md (crM bf fi ^^^ (-1)) (k + 1)))) H locs := by
          have ez : f_2 = va_up f 320 (ai (ca 1) 36 (mkS md (crM bf fi ^^^ (-1)) (k + 1))) := by simp only [ef_2, ef_1, up_aa, mkS_s]
          rw [← ez]; exact hw
        exact ih_67 (k + 1) _ _ _ (by omega) (by omega) hw (lv_sub hl [1, 2, 0] rfl)
  have P_4 : ∀ (n_4 : Nat) (i : Nat) (H : Heap) (locs : List Loc) (ls : Array Slot), fi + 1 ≤ i + n_4 → (i ≤ fi) → xw D vwCl N ad B s.heap (f) H locs → lv_has ls 4 [(0, .ref (ad 302)), (1, .int (crM bf i)), (2, .int (nI i))] → W p l e rmX6_short1 s m ([.ref (ad 302)] : List Value).toArray below meth c H locs 0 0 (MQ below (xQv (fun u => u = va_up f 320 (ai (ca 1) 36 (mkS md (crM bf fi ^^^ (-1)) 4))) D N ad B) ([.ref (ad 302)] : List Value).toArray s 0 0 (xA B)) (F0 m 4 ls []) := by
    intro n_4
    induction n_4 with
    | zero =>
      intro i H locs ls hm_4 hi hw hl
      exact absurd hm_4 (by omega)
    | succ n_4 ih_4 =>
      intro i H locs ls hm_4 hi hw hl
      have P_27 : ∀ (n_27 : Nat) (i : Nat) (k : Nat) (H : Heap) (locs : List Loc) (ls : Array Slot), 8 + 1 ≤ k + n_27 → (i < fi) → (fi + 1 ≤ i + (n_4 + 1)) → (k ≤ 8) → xw D vwCl N ad B s.heap (f) H locs → lv_has ls 4 [(0, .ref (ad 302)), (1, .int (crcN (crM bf i ^^^ (bf i &&& nI 255)) k)), (2, .int (nI i)), (3, .int (nI k))] → W p l e rmX6_short1 s m ([.ref (ad 302)] : List Value).toArray below meth c H locs 0 0 (MQ below (xQv (fun u => u = va_up f 320 (ai (ca 1) 36 (mkS md (crM bf fi ^^^ (-1)) 4))) D N ad B) ([.ref (ad 302)] : List Value).toArray s 0 0 (xA B)) (F0 m 27 ls []) := by
        intro n_27
        induction n_27 with
        | zero =>
          intro i k H locs ls hm_27 hi hu hk hw hl
          exact absurd hm_27 (by omega)
        | succ n_27 ih_27 =>
          intro i k H locs ls hm_27 hi hu hk hw hl
          have c_302 := b_302
          have c_319 := b_319
          have c_320 := b_320
          refine lv_iload_n hx hb dX6_short1_27 rfl (lv_at hl 3 rfl) ?_
          refine lv_bipush (v := nI 8) hx hb dX6_short1_28 (by decide) ?_
          refine n_icge (tgt := 59) hx hb dX6_short1_30 (by decide) (by omega) (by omega) (fun c_30 => ?_) (fun c_30 => ?_)
          · refine lv_iinc (v := nI (i + 1)) (lv' := [(2, .int (nI (i + 1))), (0, .ref (ad 302)), (1, .int (crcN (crM bf i ^^^ (bf i &&& nI 255)) k)), (3, .int (nI k))]) hx hb dX6_short1_59 hl (k := 2) rfl (by rw [show Int32.ofInt 1 = nI 1 from rfl]; exact nI_add _ _) (by decide) rfl (fun ls hl => ?_)
            refine lv_goto (tgt := 4) hx hb dX6_short1_62 (by decide) ?_
            exact ih_4 (i + 1) _ _ _ (by omega) (by omega) hw (by have hl := lv_sub (l' := [(0, .ref (ad 302)), (1, .int (crcN (crM bf i ^^^ (bf i &&& nI 255)) k)), (2, .int (nI (i + 1)))]) hl [1, 2, 0] rfl; have ek : k = 8 := (by omega); subst ek; exact hl)
          · refine lv_iload_n hx hb dX6_short1_33 rfl (lv_at hl 1 rfl) ?_
            refine lv_iconst (v := nI 1) hx hb dX6_short1_34 (by decide) ?_
            refine lv_iand hx hb dX6_short1_35 ?_
            refine lv_iconst (v := nI 1) hx hb dX6_short1_36 (by decide) ?_
            refine lv_icmp_ne (tgt := 49) hx hb dX6_short1_37 (by decide) (fun c_37 => ?_) (fun c_37 => ?_)
            · refine lv_iload_n hx hb dX6_short1_49 rfl (lv_at hl 1 rfl) ?_
              refine lv_iconst (v := nI 1) hx hb dX6_short1_50 (by decide) ?_
              refine n_iushr hx hb dX6_short1_51 ?_
              refine lv_topi (fun x_3 ex_3 => ?_)
              refine lv_istore_n (lv' := [(1, .int x_3), (0, .ref (ad 302)), (2, .int (nI i)), (3, .int (nI k))]) hx hb dX6_short1_52 rfl hl (by decide) rfl (fun ls hl => ?_)
              refine lv_iinc (v := nI (k + 1)) (lv' := [(3, .int (nI (k + 1))), (1, .int x_3), (0, .ref (ad 302)), (2, .int (nI i))]) hx hb dX6_short1_53 hl (k := 3) rfl (by rw [show Int32.ofInt 1 = nI 1 from rfl]; exact nI_add _ _) (by decide) rfl (fun ls hl => ?_)
              refine lv_goto (tgt := 27) hx hb dX6_short1_56 (by decide) ?_
              exact ih_27 i (k + 1) _ _ _ (by omega) (by omega) (by omega) (by omega) hw (by have hl := lv_sub (l' := [(0, .ref (ad 302)), (1, .int x_3), (2, .int (nI i)), (3, .int (nI (k + 1)))]) hl [2, 1, 3, 0] rfl; simp only [ex_3] at hl; first | (rw [crcN_even c_37]; exact hl) | (rw [crcN_odd c_37]; exact hl))
            · refine lv_iload_n hx hb dX6_short1_40 rfl (lv_at hl 1 rfl) ?_
              refine lv_iconst (v := nI 1) hx hb dX6_short1_41 (by decide) ?_
              refine n_iushr hx hb dX6_short1_42 ?_
              refine lv_ldc (v := (-306674912)) hx hb hown (hts (.constant RX6 186 (-306674912)) (by decide +kernel)) dX6_short1_43 ?_
              refine lv_ixor hx hb dX6_short1_45 ?_
              refine lv_goto (tgt := 52) hx hb dX6_short1_46 (by decide) ?_
              refine lv_topi (fun x_4 ex_4 => ?_)
              refine lv_istore_n (lv' := [(1, .int x_4), (0, .ref (ad 302)), (2, .int (nI i)), (3, .int (nI k))]) hx hb dX6_short1_52 rfl hl (by decide) rfl (fun ls hl => ?_)
              refine lv_iinc (v := nI (k + 1)) (lv' := [(3, .int (nI (k + 1))), (1, .int x_4), (0, .ref (ad 302)), (2, .int (nI i))]) hx hb dX6_short1_53 hl (k := 3) rfl (by rw [show Int32.ofInt 1 = nI 1 from rfl]; exact nI_add _ _) (by decide) rfl (fun ls hl => ?_)
              refine lv_goto (tgt := 27) hx hb dX6_short1_56 (by decide) ?_
              exact ih_27 i (k + 1) _ _ _ (by omega) (by omega) (by omega) (by omega) hw (by have hl := lv_sub (l' := [(0, .ref (ad 302)), (1, .int x_4), (2, .int (nI i)), (3, .int (nI (k + 1)))]) hl [2, 1, 3, 0] rfl; simp only [ex_4] at hl; first | (rw [crcN_even c_37]; exact hl) | (rw [crcN_odd c_37]; exact hl))
      have c_302 := b_302
      have c_319 := b_319
      have c_320 := b_320
      refine lv_iload_n hx hb dX6_short1_4 rfl (lv_at hl 2 rfl) ?_
      refine lv_aload_n hx hb dX6_short1_5 rfl (lv_at hl 0 rfl) ?_
      refine x_get (ci := 7) (C := RX6) (T := TX6) (n := 32) (ref := RX6) hx hb hts hin_7 hown hK hw 302 (by omega) c_302 rfl 24 (by decide) hf_179 (fun _ h => h) rfl dX6_short1_6 ?_
      refine n_icge (tgt := 65) hx hb dX6_short1_9 (by decide) (by omega) (by omega) (fun c_9 => ?_) (fun c_9 => ?_)
      · refine lv_iconst (v := nI 0) hx hb dX6_short1_65 (by decide) ?_
        refine lv_istore_n (lv' := [(2, .int (nI 0)), (0, .ref (ad 302)), (1, .int (crM bf i))]) hx hb dX6_short1_66 rfl hl (by decide) rfl (fun ls hl => ?_)
        have hw : xw D vwCl N ad B s.heap (va_up f 320 (ai (ca 1) 36 (mkS md (crM bf fi ^^^ (-1)) 0))) H locs := by
          have ez : f = va_up f 320 (ai (ca 1) 36 (mkS md (crM bf fi ^^^ (-1)) 0)) := by rw [mkS_0, ← b_320, up_same]
          rw [← ez]; exact hw
        exact P_67 5 0 _ _ _ (by omega) (by omega) hw (by have hl := lv_sub (l' := [(0, .ref (ad 302)), (1, .int (crM bf i)), (2, .int (nI 0))]) hl [1, 2, 0] rfl; have ei : i = fi := (by omega); rw [ei] at hl; exact hl)
      · refine lv_iload_n hx hb dX6_short1_12 rfl (lv_at hl 1 rfl) ?_
        refine lv_aload_n hx hb dX6_short1_13 rfl (lv_at hl 0 rfl) ?_
        refine x_get (ci := 7) (C := RX6) (T := TX6) (n := 32) (ref := RX6) hx hb hts hin_7 hown hK hw 302 (by omega) c_302 rfl 25 (by decide) hf_64 (fun _ h => h) rfl dX6_short1_14 ?_
        refine lv_iload_n hx hb dX6_short1_17 rfl (lv_at hl 2 rfl) ?_
        refine x_bald (j := i) hx hb hK hw 319 1 (by omega) c_319 rfl rfl (by omega) (by decide) dX6_short1_18 ?_
        refine lv_sipush (v := nI 255) hx hb dX6_short1_19 (by decide) ?_
        refine lv_iand hx hb dX6_short1_22 ?_
        refine lv_ixor hx hb dX6_short1_23 ?_
        refine lv_topi (fun x_5 ex_5 => ?_)
        refine lv_istore_n (lv' := [(1, .int x_5), (0, .ref (ad 302)), (2, .int (nI i))]) hx hb dX6_short1_24 rfl hl (by decide) rfl (fun ls hl => ?_)
        refine lv_iconst (v := nI 0) hx hb dX6_short1_25 (by decide) ?_
        refine lv_istore_n (lv' := [(3, .int (nI 0)), (1, .int x_5), (0, .ref (ad 302)), (2, .int (nI i))]) hx hb dX6_short1_26 rfl hl (by decide) rfl (fun ls hl => ?_)
        exact P_27 9 i 0 _ _ _ (by omega) (by omega) (by omega) (by omega) hw (by have hl := lv_sub (l' := [(0, .ref (ad 302)), (1, .int x_5), (2, .int (nI i)), (3, .int (nI 0))]) hl [2, 1, 3, 0] rfl; simp only [ex_5] at hl; exact hl)
  refine lv_iconst (v := (-1)) hx hb dX6_short1_0 (by decide) ?_
  refine lv_istore_n (lv' := [(1, .int ((-1))), (0, .ref (ad 302))]) hx hb dX6_short1_1 rfl hl (by decide) rfl (fun ls hl => ?_)
  refine lv_iconst (v := nI 0) hx hb dX6_short1_2 (by decide) ?_
  refine lv_istore_n (lv' := [(2, .int (nI 0)), (1, .int ((-1))), (0, .ref (ad 302))]) hx hb dX6_short1_3 rfl hl (by decide) rfl (fun ls hl => ?_)
  exact P_4 ((fi + 1)) 0 _ _ _ (by omega) (by omega) hw (lv_sub hl [2, 1, 0] rfl)

abbrev rmX6_gather : Room := { frames := 0, cells := 0, slots := 0, locals := 0 }

set_option maxHeartbeats 4000000 in
set_option maxRecDepth 100000 in
theorem k_X6_gather (l : Launch) (D : va_G) (ca : Nat → ClassId) (N : Nat) (ad : Nat → Nat) (B tR tK : Nat) (f : Nat → va_E) (dd : xD N ad B) (th : Nat) (cap : Nat) (cl : Nat) (fs : Nat) (wk : Int32) (td : Nat) (rw : Nat) (sh : Nat) (fi : Nat) (bf : Nat → Int32) (sa : Nat → Int32) (c_302 : f 302 = .inr (7, mO ad th cap cl fs wk td rw sh fi)) (c_303 : f 303 = ai (ca 1) 200 sa) (c_319 : f 319 = ai (ca 1) 320 bf)  (hN : 326 ≤ N) (hc : cl ≤ 200) : xMv l yX6_gather wsX6_gather rmX6_gather [.ref (ad 302)] D ca N ad B tR tK f (fun u => u = va_up (va_up f 302 (.inr (7, mO ad th cap cl fs wk td rw sh cl))) 319 (ai (ca 1) 320 (cpB bf sa cl))) := by
  refine x_open (cc := cX6_gather) (maxL := 2) (ret := none) (by decide) rfl (Nat.le_of_ble_eq_true rfl) ?_
  intro p e s m below meth c ls hx hb hml hown hts hr hlocks hnm hB hK hE hw hl
  have hown : s.vm.findClass RX6 = some m.cls := hown
  have hl : lv_has ls 2 [(0, .ref (ad 302))] := hl
  have hin_7 : ∀ w ∈ u_ws RX6 TX6 32, w ∈ wsX6_gather := by decide +kernel
  have hf_209 := hts (.fieldLink RX6 209 "FixityRowsModel" "collected" "I") (by decide +kernel)
  have hf_64 := hts (.fieldLink RX6 64 "FixityRowsModel" "buffer" "[B") (by decide +kernel)
  have hf_7 := hts (.fieldLink RX6 7 "FixityRowsModel" "said" "[B") (by decide +kernel)
  have hf_179 := hts (.fieldLink RX6 179 "FixityRowsModel" "filled" "I") (by decide +kernel)
  have b_302 := c_302
  have b_303 := c_303
  have b_319 := c_319
  have P_10 : ∀ (n_10 : Nat) (k : Nat) (H : Heap) (locs : List Loc) (ls : Array Slot), cl + 1 ≤ k + n_10 → (k ≤ cl) → xw D vwCl N ad B s.heap (va_up (va_up f 302 (.inr (7, mO ad th cap cl fs wk td rw sh cl))) 319 (ai (ca 1) 320 (cpB bf sa k))) H locs → lv_has ls 2 [(0, .ref (ad 302)), (1, .int (nI k))] → W p l e rmX6_gather s m ([.ref (ad 302)] : List Value).toArray below meth c H locs 0 0 (MQ below (xQv (fun u => u = va_up (va_up f 302 (.inr (7, mO ad th cap cl fs wk td rw sh cl))) 319 (ai (ca 1) 320 (cpB bf sa cl))) D N ad B) ([.ref (ad 302)] : List Value).toArray s 0 0 (xA B)) (F0 m 10 ls []) := by
    intro n_10
    induction n_10 with
    | zero =>
      intro k H locs ls hm_10 hk hw hl
      exact absurd hm_10 (by omega)
    | succ n_10 ih_10 =>
      intro k H locs ls hm_10 hk hw hl
      have c_302 := b_302
      have c_303 := b_303
      have c_319 := b_319
      obtain ⟨f_1, ef_1⟩ : ∃ z, z = va_up (va_up f 302 (.inr (7, mO ad th cap cl fs wk td rw sh cl))) 319 (ai (ca 1) 320 (cpB bf sa k)) := ⟨_, rfl⟩
      have hw : xw D vwCl N ad B s.heap f_1 H locs := by rw [ef_1]; exact hw
      have c_302 : f_1 302 = .inr (7, mO ad th cap cl fs wk td rw sh cl) := by rw [ef_1, va_up_ne _ _ (by decide), va_up_self]
      have c_319 : f_1 319 = ai (ca 1) 320 (cpB bf sa k) := by rw [ef_1, va_up_self]
      refine lv_iload_n hx hb dX6_gather_10 rfl (lv_at hl 1 rfl) ?_
      refine lv_aload_n hx hb dX6_gather_11 rfl (lv_at hl 0 rfl) ?_
      refine x_get (ci := 7) (C := RX6) (T := TX6) (n := 32) (ref := RX6) hx hb hts hin_7 hown hK hw 302 (by omega) c_302 rfl 2 (by decide) hf_209 (fun _ h => h) rfl dX6_gather_12 ?_
      refine n_icge (tgt := 36) hx hb dX6_gather_15 (by decide) (by omega) (by omega) (fun c_15 => ?_) (fun c_15 => ?_)
      · exact x_vret hx hb hr hlocks hw (by have ek : k = cl := (by omega); subst ek; simp only [ef_1]) dX6_gather_36
      · refine lv_aload_n hx hb dX6_gather_18 rfl (lv_at hl 0 rfl) ?_
        refine x_get (ci := 7) (C := RX6) (T := TX6) (n := 32) (ref := RX6) hx hb hts hin_7 hown hK hw 302 (by omega) c_302 rfl 25 (by decide) hf_64 (fun _ h => h) rfl dX6_gather_19 ?_
        refine lv_iload_n hx hb dX6_gather_22 rfl (lv_at hl 1 rfl) ?_
        refine lv_aload_n hx hb dX6_gather_23 rfl (lv_at hl 0 rfl) ?_
        refine x_get (ci := 7) (C := RX6) (T := TX6) (n := 32) (ref := RX6) hx hb hts hin_7 hown hK hw 302 (by omega) c_302 rfl 3 (by decide) hf_7 (fun _ h => h) rfl dX6_gather_24 ?_
        refine lv_iload_n hx hb dX6_gather_27 rfl (lv_at hl 1 rfl) ?_
        have c_303 : f_1 303 = ai (ca 1) 200 sa := by rw [ef_1, va_up_ne _ _ (by decide), va_up_ne _ _ (by decide)]; exact c_303
        refine x_bald (j := k) hx hb hK hw 303 1 (by omega) c_303 rfl rfl (by omega) (by decide) dX6_gather_28 ?_
        refine x_bast (j := k) (y := (sa k).toInt8.toInt32) hx hb hK dd hw 319 1 (by omega) c_319 rfl rfl (by omega) (by decide) rfl dX6_gather_29 (fun H locs hw => ?_)
        obtain ⟨f_2, ef_2⟩ : ∃ z, z = va_up f_1 319 (ai (ca 1) 320 (upd (cpB bf sa k) k ((sa k).toInt8.toInt32))) := ⟨_, rfl⟩
        have hw : xw D vwCl N ad B s.heap f_2 H locs := by rw [ef_2]; exact hw
        have c_319 : f_2 319 = ai (ca 1) 320 (upd (cpB bf sa k) k ((sa k).toInt8.toInt32)) := va_up_of ef_2
        refine lv_iinc (v := nI (k + 1)) (lv' := [(1, .int (nI (k + 1))), (0, .ref (ad 302))]) hx hb dX6_gather_30 hl (k := 1) rfl (by rw [show Int32.ofInt 1 = nI 1 from rfl]; exact nI_add _ _) (by decide) rfl (fun ls hl => ?_)
        refine lv_goto (tgt := 10) hx hb dX6_gather_33 (by decide) ?_
        have hw : xw D vwCl N ad B s.heap (va_up (va_up f 302 (.inr (7, mO ad th cap cl fs wk td rw sh cl))) 319 (ai (ca 1) 320 (cpB bf sa (k + 1)))) H locs := by
          have ez : f_2 = va_up (va_up f 302 (.inr (7, mO ad th cap cl fs wk td rw sh cl))) 319 (ai (ca 1) 320 (cpB bf sa (k + 1))) := by simp only [ef_2, ef_1, up_aa, cpB_s]
          rw [← ez]; exact hw
        exact ih_10 (k + 1) _ _ _ (by omega) (by omega) hw (lv_sub hl [1, 0] rfl)
  refine lv_aload_n hx hb dX6_gather_0 rfl (lv_at hl 0 rfl) ?_
  refine lv_aload_n hx hb dX6_gather_1 rfl (lv_at hl 0 rfl) ?_
  refine x_get (ci := 7) (C := RX6) (T := TX6) (n := 32) (ref := RX6) hx hb hts hin_7 hown hK hw 302 (by omega) c_302 rfl 2 (by decide) hf_209 (fun _ h => h) rfl dX6_gather_2 ?_
  refine x_put (ci := 7) (C := RX6) (T := TX6) (n := 32) (ref := RX6) (fs' := mO ad th cap cl fs wk td rw sh cl) hx hb hts hin_7 tyX6 tyX6_ok nmX6 hown hK dd hw 302 (by omega) c_302 rfl 24 (by decide) hf_179 (fun _ h => h) rfl rfl rfl (Nat.le_of_ble_eq_true rfl) rfl dX6_gather_5 (fun H locs hw => ?_)
  obtain ⟨f_3, ef_3⟩ : ∃ z, z = va_up f 302 (.inr (7, mO ad th cap cl fs wk td rw sh cl)) := ⟨_, rfl⟩
  have hw : xw D vwCl N ad B s.heap f_3 H locs := by rw [ef_3]; exact hw
  have c_302 : f_3 302 = .inr (7, mO ad th cap cl fs wk td rw sh cl) := va_up_of ef_3
  refine lv_iconst (v := nI 0) hx hb dX6_gather_8 (by decide) ?_
  refine lv_istore_n (lv' := [(1, .int (nI 0)), (0, .ref (ad 302))]) hx hb dX6_gather_9 rfl hl (by decide) rfl (fun ls hl => ?_)
  have hw : xw D vwCl N ad B s.heap (va_up (va_up f 302 (.inr (7, mO ad th cap cl fs wk td rw sh cl))) 319 (ai (ca 1) 320 (cpB bf sa 0))) H locs := by
    have ez : f_3 = va_up (va_up f 302 (.inr (7, mO ad th cap cl fs wk td rw sh cl))) 319 (ai (ca 1) 320 (cpB bf sa 0)) := by rw [ef_3, cpB_0, ← b_319, ← va_up_ne f (.inr (7, mO ad th cap cl fs wk td rw sh cl)) (show 319 ≠ 302 by decide), up_same]
    rw [← ez]; exact hw
  exact P_10 ((cl + 1)) 0 _ _ _ (by omega) (by omega) hw (lv_sub hl [1, 0] rfl)

abbrev rmX6_fill : Room := { frames := 0, cells := 0, slots := 0, locals := 0 }

set_option maxHeartbeats 4000000 in
set_option maxRecDepth 100000 in
theorem k_X6_fill (l : Launch) (D : va_G) (ca : Nat → ClassId) (N : Nat) (ad : Nat → Nat) (B tR tK : Nat) (f : Nat → va_E) (dd : xD N ad B) (th : Nat) (cap : Nat) (cl : Nat) (fs : Nat) (wk : Int32) (td : Nat) (rw : Nat) (sh : Nat) (fi : Nat) (bf : Nat → Int32) (bb : Nat → Int32) (sz : Nat → Int32) (i : Nat) (zz : Nat) (c_302 : f 302 = .inr (7, mO ad th cap cl fs wk td rw sh fi)) (c_304 : f 304 = ai (ca 1) 4000 bb) (c_305 : f 305 = ai (ca 0) 20 sz) (c_319 : f 319 = ai (ca 1) 320 bf)  (hN : 326 ≤ N) (hi : i < 20) (hz : sz i = nI zz) (hz2 : zz ≤ 200) : xMv l yX6_fill wsX6_fill rmX6_fill [.ref (ad 302), .int (nI i)] D ca N ad B tR tK f (fun u => u = va_up (va_up f 302 (.inr (7, mO ad th cap cl fs wk td rw sh zz))) 319 (ai (ca 1) 320 (cpB bf (fun x => bb (200 * i + x)) zz))) := by
  refine x_open (cc := cX6_fill) (maxL := 3) (ret := none) (by decide) rfl (Nat.le_of_ble_eq_true rfl) ?_
  intro p e s m below meth c ls hx hb hml hown hts hr hlocks hnm hB hK hE hw hl
  have hown : s.vm.findClass RX6 = some m.cls := hown
  have hl : lv_has ls 3 [(0, .ref (ad 302)), (1, .int (nI i))] := hl
  have hin_7 : ∀ w ∈ u_ws RX6 TX6 32, w ∈ wsX6_fill := by decide +kernel
  have hf_179 := hts (.fieldLink RX6 179 "FixityRowsModel" "filled" "I") (by decide +kernel)
  have hf_64 := hts (.fieldLink RX6 64 "FixityRowsModel" "buffer" "[B") (by decide +kernel)
  have hf_13 := hts (.fieldLink RX6 13 "FixityRowsModel" "bytes" "[B") (by decide +kernel)
  have hf_16 := hts (.fieldLink RX6 16 "FixityRowsModel" "size" "[I") (by decide +kernel)
  have b_302 := c_302
  have b_304 := c_304
  have b_305 := c_305
  have b_319 := c_319
  have P_12 : ∀ (n_12 : Nat) (k : Nat) (H : Heap) (locs : List Loc) (ls : Array Slot), zz + 1 ≤ k + n_12 → (k ≤ zz) → xw D vwCl N ad B s.heap (va_up (va_up f 302 (.inr (7, mO ad th cap cl fs wk td rw sh zz))) 319 (ai (ca 1) 320 (cpB bf (fun x => bb (200 * i + x)) k))) H locs → lv_has ls 3 [(0, .ref (ad 302)), (1, .int (nI i)), (2, .int (nI k))] → W p l e rmX6_fill s m ([.ref (ad 302), .int (nI i)] : List Value).toArray below meth c H locs 0 0 (MQ below (xQv (fun u => u = va_up (va_up f 302 (.inr (7, mO ad th cap cl fs wk td rw sh zz))) 319 (ai (ca 1) 320 (cpB bf (fun x => bb (200 * i + x)) zz))) D N ad B) ([.ref (ad 302), .int (nI i)] : List Value).toArray s 0 0 (xA B)) (F0 m 12 ls []) := by
    intro n_12
    induction n_12 with
    | zero =>
      intro k H locs ls hm_12 hk hw hl
      exact absurd hm_12 (by omega)
    | succ n_12 ih_12 =>
      intro k H locs ls hm_12 hk hw hl
      have c_302 := b_302
      have c_304 := b_304
      have c_305 := b_305
      have c_319 := b_319
      obtain ⟨f_1, ef_1⟩ : ∃ z, z = va_up (va_up f 302 (.inr (7, mO ad th cap cl fs wk td rw sh zz))) 319 (ai (ca 1) 320 (cpB bf (fun x => bb (200 * i + x)) k)) := ⟨_, rfl⟩
      have hw : xw D vwCl N ad B s.heap f_1 H locs := by rw [ef_1]; exact hw
      have c_302 : f_1 302 = .inr (7, mO ad th cap cl fs wk td rw sh zz) := by rw [ef_1, va_up_ne _ _ (by decide), va_up_self]
      have c_319 : f_1 319 = ai (ca 1) 320 (cpB bf (fun x => bb (200 * i + x)) k) := by rw [ef_1, va_up_self]
      refine lv_iload_n hx hb dX6_fill_12 rfl (lv_at hl 2 rfl) ?_
      refine lv_aload_n hx hb dX6_fill_13 rfl (lv_at hl 0 rfl) ?_
      refine x_get (ci := 7) (C := RX6) (T := TX6) (n := 32) (ref := RX6) hx hb hts hin_7 hown hK hw 302 (by omega) c_302 rfl 24 (by decide) hf_179 (fun _ h => h) rfl dX6_fill_14 ?_
      refine n_icge (tgt := 44) hx hb dX6_fill_17 (by decide) (by omega) (by omega) (fun c_17 => ?_) (fun c_17 => ?_)
      · exact x_vret hx hb hr hlocks hw (by have ek : k = zz := (by omega); subst ek; simp only [ef_1]) dX6_fill_44
      · refine lv_aload_n hx hb dX6_fill_20 rfl (lv_at hl 0 rfl) ?_
        refine x_get (ci := 7) (C := RX6) (T := TX6) (n := 32) (ref := RX6) hx hb hts hin_7 hown hK hw 302 (by omega) c_302 rfl 25 (by decide) hf_64 (fun _ h => h) rfl dX6_fill_21 ?_
        refine lv_iload_n hx hb dX6_fill_24 rfl (lv_at hl 2 rfl) ?_
        refine lv_aload_n hx hb dX6_fill_25 rfl (lv_at hl 0 rfl) ?_
        refine x_get (ci := 7) (C := RX6) (T := TX6) (n := 32) (ref := RX6) hx hb hts hin_7 hown hK hw 302 (by omega) c_302 rfl 5 (by decide) hf_13 (fun _ h => h) rfl dX6_fill_26 ?_
        refine lv_sipush (v := nI 200) hx hb dX6_fill_29 (by decide) ?_
        refine lv_iload_n hx hb dX6_fill_32 rfl (lv_at hl 1 rfl) ?_
        refine n_imul hx hb dX6_fill_33 ?_
        refine lv_iload_n hx hb dX6_fill_34 rfl (lv_at hl 2 rfl) ?_
        refine n_iadd hx hb dX6_fill_35 ?_
        have c_304 : f_1 304 = ai (ca 1) 4000 bb := by rw [ef_1, va_up_ne _ _ (by decide), va_up_ne _ _ (by decide)]; exact c_304
        refine x_bald (j := (200 * i) + k) hx hb hK hw 304 1 (by omega) c_304 rfl rfl (by omega) (by decide) dX6_fill_36 ?_
        refine x_bast (j := k) (y := (bb ((200 * i) + k)).toInt8.toInt32) hx hb hK dd hw 319 1 (by omega) c_319 rfl rfl (by omega) (by decide) rfl dX6_fill_37 (fun H locs hw => ?_)
        obtain ⟨f_2, ef_2⟩ : ∃ z, z = va_up f_1 319 (ai (ca 1) 320 (upd (cpB bf (fun x => bb (200 * i + x)) k) k ((bb ((200 * i) + k)).toInt8.toInt32))) := ⟨_, rfl⟩
        have hw : xw D vwCl N ad B s.heap f_2 H locs := by rw [ef_2]; exact hw
        have c_319 : f_2 319 = ai (ca 1) 320 (upd (cpB bf (fun x => bb (200 * i + x)) k) k ((bb ((200 * i) + k)).toInt8.toInt32)) := va_up_of ef_2
        refine lv_iinc (v := nI (k + 1)) (lv' := [(2, .int (nI (k + 1))), (0, .ref (ad 302)), (1, .int (nI i))]) hx hb dX6_fill_38 hl (k := 2) rfl (by rw [show Int32.ofInt 1 = nI 1 from rfl]; exact nI_add _ _) (by decide) rfl (fun ls hl => ?_)
        refine lv_goto (tgt := 12) hx hb dX6_fill_41 (by decide) ?_
        have hw : xw D vwCl N ad B s.heap (va_up (va_up f 302 (.inr (7, mO ad th cap cl fs wk td rw sh zz))) 319 (ai (ca 1) 320 (cpB bf (fun x => bb (200 * i + x)) (k + 1)))) H locs := by
          have ez : f_2 = va_up (va_up f 302 (.inr (7, mO ad th cap cl fs wk td rw sh zz))) 319 (ai (ca 1) 320 (cpB bf (fun x => bb (200 * i + x)) (k + 1))) := by simp only [ef_2, ef_1, up_aa]; rw [← cpB_s]
          rw [← ez]; exact hw
        exact ih_12 (k + 1) _ _ _ (by omega) (by omega) hw (lv_sub hl [1, 2, 0] rfl)
  refine lv_aload_n hx hb dX6_fill_0 rfl (lv_at hl 0 rfl) ?_
  refine lv_aload_n hx hb dX6_fill_1 rfl (lv_at hl 0 rfl) ?_
  refine x_get (ci := 7) (C := RX6) (T := TX6) (n := 32) (ref := RX6) hx hb hts hin_7 hown hK hw 302 (by omega) c_302 rfl 6 (by decide) hf_16 (fun _ h => h) rfl dX6_fill_2 ?_
  refine lv_iload_n hx hb dX6_fill_5 rfl (lv_at hl 1 rfl) ?_
  refine x_iald (j := i) hx hb hK hw 305 0 (by omega) c_305 rfl rfl (by omega) (by decide) dX6_fill_6 ?_
  rw [hz]
  refine x_put (ci := 7) (C := RX6) (T := TX6) (n := 32) (ref := RX6) (fs' := mO ad th cap cl fs wk td rw sh zz) hx hb hts hin_7 tyX6 tyX6_ok nmX6 hown hK dd hw 302 (by omega) c_302 rfl 24 (by decide) hf_179 (fun _ h => h) rfl rfl rfl (Nat.le_of_ble_eq_true rfl) rfl dX6_fill_7 (fun H locs hw => ?_)
  obtain ⟨f_3, ef_3⟩ : ∃ z, z = va_up f 302 (.inr (7, mO ad th cap cl fs wk td rw sh zz)) := ⟨_, rfl⟩
  have hw : xw D vwCl N ad B s.heap f_3 H locs := by rw [ef_3]; exact hw
  have c_302 : f_3 302 = .inr (7, mO ad th cap cl fs wk td rw sh zz) := va_up_of ef_3
  refine lv_iconst (v := nI 0) hx hb dX6_fill_10 (by decide) ?_
  refine lv_istore_n (lv' := [(2, .int (nI 0)), (0, .ref (ad 302)), (1, .int (nI i))]) hx hb dX6_fill_11 rfl hl (by decide) rfl (fun ls hl => ?_)
  have hw : xw D vwCl N ad B s.heap (va_up (va_up f 302 (.inr (7, mO ad th cap cl fs wk td rw sh zz))) 319 (ai (ca 1) 320 (cpB bf (fun x => bb (200 * i + x)) 0))) H locs := by
    have ez : f_3 = va_up (va_up f 302 (.inr (7, mO ad th cap cl fs wk td rw sh zz))) 319 (ai (ca 1) 320 (cpB bf (fun x => bb (200 * i + x)) 0)) := by rw [ef_3, cpB_0, ← b_319, ← va_up_ne f (.inr (7, mO ad th cap cl fs wk td rw sh zz)) (show 319 ≠ 302 by decide), up_same]
    rw [← ez]; exact hw
  exact P_12 ((zz + 1)) 0 _ _ _ (by omega) (by omega) hw (lv_sub hl [1, 2, 0] rfl)

abbrev rmX6_number : Room := { frames := 0, cells := 0, slots := 0, locals := 0 }

set_option maxHeartbeats 4000000 in
set_option maxRecDepth 100000 in
theorem k_X6_number (l : Launch) (D : va_G) (ca : Nat → ClassId) (N : Nat) (ad : Nat → Nat) (B tR tK : Nat) (f : Nat → va_E) (dd : xD N ad B) (th : Nat) (cap : Nat) (cl : Nat) (fs : Nat) (wk : Int32) (td : Nat) (rw : Nat) (sh : Nat) (fi : Nat) (bf : Nat → Int32) (x : Int32) (c_302 : f 302 = .inr (7, mO ad th cap cl fs wk td rw sh fi)) (c_319 : f 319 = ai (ca 1) 320 bf)  (hN : 326 ≤ N) (hf : fi + 4 ≤ 200) : xMv l yX6_number wsX6_number rmX6_number [.ref (ad 302), .int x] D ca N ad B tR tK f (fun u => u = va_up (va_up f 302 (.inr (7, mO ad th cap cl fs wk td rw sh (fi + 4)))) 319 (ai (ca 1) 320 (nbr bf fi x))) := by
  refine x_open (cc := cX6_number) (maxL := 3) (ret := none) (by decide) rfl (Nat.le_of_ble_eq_true rfl) ?_
  intro p e s m below meth c ls hx hb hml hown hts hr hlocks hnm hB hK hE hw hl
  have hown : s.vm.findClass RX6 = some m.cls := hown
  have hl : lv_has ls 3 [(0, .ref (ad 302)), (1, .int x)] := hl
  have hin_7 : ∀ w ∈ u_ws RX6 TX6 32, w ∈ wsX6_number := by decide +kernel
  have hf_64 := hts (.fieldLink RX6 64 "FixityRowsModel" "buffer" "[B") (by decide +kernel)
  have hf_179 := hts (.fieldLink RX6 179 "FixityRowsModel" "filled" "I") (by decide +kernel)
  have b_302 := c_302
  have b_319 := c_319
  refine lv_iconst (v := nI 0) hx hb dX6_number_0 (by decide) ?_
  refine lv_istore_n (lv' := [(2, .int (nI 0)), (0, .ref (ad 302)), (1, .int x)]) hx hb dX6_number_1 rfl hl (by decide) rfl (fun ls hl => ?_)
  refine lv_iload_n hx hb dX6_number_2 rfl (lv_at hl 0 rfl) ?_
  refine lv_iconst (v := nI 4) hx hb dX6_number_3 (by decide) ?_
  refine n_icge (tgt := 42) hx hb dX6_number_4 (by decide) (by decide) (by decide) (fun h => absurd h (by decide)) (fun _ => ?_)
  refine lv_aload_n hx hb dX6_number_7 rfl (lv_at hl 1 rfl) ?_
  refine x_get (ci := 7) (C := RX6) (T := TX6) (n := 32) (ref := RX6) hx hb hts hin_7 hown hK hw 302 (by omega) c_302 rfl 25 (by decide) hf_64 (fun _ h => h) rfl dX6_number_8 ?_
  refine lv_aload_n hx hb dX6_number_11 rfl (lv_at hl 1 rfl) ?_
  refine x_get (ci := 7) (C := RX6) (T := TX6) (n := 32) (ref := RX6) hx hb hts hin_7 hown hK hw 302 (by omega) c_302 rfl 24 (by decide) hf_179 (fun _ h => h) rfl dX6_number_12 ?_
  refine lv_iload_n hx hb dX6_number_15 rfl (lv_at hl 2 rfl) ?_
  refine lv_bipush (v := nI 24) hx hb dX6_number_16 (by decide) ?_
  refine lv_bipush (v := nI 8) hx hb dX6_number_18 (by decide) ?_
  refine lv_iload_n hx hb dX6_number_20 rfl (lv_at hl 0 rfl) ?_
  refine n_imul hx hb dX6_number_21 ?_
  refine n_isub hx hb dX6_number_22 (by omega) ?_
  refine n_iushr hx hb dX6_number_23 ?_
  refine lv_i2b (v := (jushr x (nI (24 - (8 * 0)))).toInt8.toInt32) hx hb dX6_number_24 rfl ?_
  refine x_bast (j := fi) (y := (jushr x (nI (24 - (8 * 0)))).toInt8.toInt32) hx hb hK dd hw 319 1 (by omega) c_319 rfl rfl (by omega) (by decide) (i8_i8 _) dX6_number_25 (fun H locs hw => ?_)
  obtain ⟨f_1, ef_1⟩ : ∃ z, z = va_up f 319 (ai (ca 1) 320 (upd bf fi ((jushr x (nI (24 - (8 * 0)))).toInt8.toInt32))) := ⟨_, rfl⟩
  have hw : xw D vwCl N ad B s.heap f_1 H locs := by rw [ef_1]; exact hw
  have c_319 : f_1 319 = ai (ca 1) 320 (upd bf fi ((jushr x (nI (24 - (8 * 0)))).toInt8.toInt32)) := va_up_of ef_1
  refine lv_aload_n hx hb dX6_number_26 rfl (lv_at hl 1 rfl) ?_
  refine lv_dup hx hb dX6_number_27 rfl ?_
  have c_302 : f_1 302 = .inr (7, mO ad th cap cl fs wk td rw sh fi) := by rw [ef_1, va_up_ne _ _ (by decide)]; exact c_302
  refine x_get (ci := 7) (C := RX6) (T := TX6) (n := 32) (ref := RX6) hx hb hts hin_7 hown hK hw 302 (by omega) c_302 rfl 24 (by decide) hf_179 (fun _ h => h) rfl dX6_number_28 ?_
  refine lv_iconst (v := nI 1) hx hb dX6_number_31 (by decide) ?_
  refine n_iadd hx hb dX6_number_32 ?_
  refine x_put (ci := 7) (C := RX6) (T := TX6) (n := 32) (ref := RX6) (fs' := mO ad th cap cl fs wk td rw sh (fi + 1)) hx hb hts hin_7 tyX6 tyX6_ok nmX6 hown hK dd hw 302 (by omega) c_302 rfl 24 (by decide) hf_179 (fun _ h => h) rfl rfl rfl (Nat.le_of_ble_eq_true rfl) rfl dX6_number_33 (fun H locs hw => ?_)
  obtain ⟨f_2, ef_2⟩ : ∃ z, z = va_up f_1 302 (.inr (7, mO ad th cap cl fs wk td rw sh (fi + 1))) := ⟨_, rfl⟩
  have hw : xw D vwCl N ad B s.heap f_2 H locs := by rw [ef_2]; exact hw
  have c_302 : f_2 302 = .inr (7, mO ad th cap cl fs wk td rw sh (fi + 1)) := va_up_of ef_2
  refine lv_iinc (v := nI 1) (lv' := [(2, .int (nI 1)), (0, .ref (ad 302)), (1, .int x)]) hx hb dX6_number_36 hl (k := 0) rfl (by decide) (by decide) rfl (fun ls hl => ?_)
  refine lv_goto (tgt := 2) hx hb dX6_number_39 (by decide) ?_
  refine lv_iload_n hx hb dX6_number_2 rfl (lv_at hl 0 rfl) ?_
  refine lv_iconst (v := nI 4) hx hb dX6_number_3 (by decide) ?_
  refine n_icge (tgt := 42) hx hb dX6_number_4 (by decide) (by decide) (by decide) (fun h => absurd h (by decide)) (fun _ => ?_)
  refine lv_aload_n hx hb dX6_number_7 rfl (lv_at hl 1 rfl) ?_
  refine x_get (ci := 7) (C := RX6) (T := TX6) (n := 32) (ref := RX6) hx hb hts hin_7 hown hK hw 302 (by omega) c_302 rfl 25 (by decide) hf_64 (fun _ h => h) rfl dX6_number_8 ?_
  refine lv_aload_n hx hb dX6_number_11 rfl (lv_at hl 1 rfl) ?_
  refine x_get (ci := 7) (C := RX6) (T := TX6) (n := 32) (ref := RX6) hx hb hts hin_7 hown hK hw 302 (by omega) c_302 rfl 24 (by decide) hf_179 (fun _ h => h) rfl dX6_number_12 ?_
  refine lv_iload_n hx hb dX6_number_15 rfl (lv_at hl 2 rfl) ?_
  refine lv_bipush (v := nI 24) hx hb dX6_number_16 (by decide) ?_
  refine lv_bipush (v := nI 8) hx hb dX6_number_18 (by decide) ?_
  refine lv_iload_n hx hb dX6_number_20 rfl (lv_at hl 0 rfl) ?_
  refine n_imul hx hb dX6_number_21 ?_
  refine n_isub hx hb dX6_number_22 (by omega) ?_
  refine n_iushr hx hb dX6_number_23 ?_
  refine lv_i2b (v := (jushr x (nI (24 - (8 * 1)))).toInt8.toInt32) hx hb dX6_number_24 rfl ?_
  have c_319 : f_2 319 = ai (ca 1) 320 (upd bf fi ((jushr x (nI (24 - (8 * 0)))).toInt8.toInt32)) := by rw [ef_2, va_up_ne _ _ (by decide)]; exact c_319
  refine x_bast (j := fi + 1) (y := (jushr x (nI (24 - (8 * 1)))).toInt8.toInt32) hx hb hK dd hw 319 1 (by omega) c_319 rfl rfl (by omega) (by decide) (i8_i8 _) dX6_number_25 (fun H locs hw => ?_)
  obtain ⟨f_3, ef_3⟩ : ∃ z, z = va_up f_2 319 (ai (ca 1) 320 (upd (upd bf fi ((jushr x (nI (24 - (8 * 0)))).toInt8.toInt32)) (fi + 1) ((jushr x (nI (24 - (8 * 1)))).toInt8.toInt32))) := ⟨_, rfl⟩
  have hw : xw D vwCl N ad B s.heap f_3 H locs := by rw [ef_3]; exact hw
  have c_319 : f_3 319 = ai (ca 1) 320 (upd (upd bf fi ((jushr x (nI (24 - (8 * 0)))).toInt8.toInt32)) (fi + 1) ((jushr x (nI (24 - (8 * 1)))).toInt8.toInt32)) := va_up_of ef_3
  refine lv_aload_n hx hb dX6_number_26 rfl (lv_at hl 1 rfl) ?_
  refine lv_dup hx hb dX6_number_27 rfl ?_
  have c_302 : f_3 302 = .inr (7, mO ad th cap cl fs wk td rw sh (fi + 1)) := by rw [ef_3, va_up_ne _ _ (by decide)]; exact c_302
  refine x_get (ci := 7) (C := RX6) (T := TX6) (n := 32) (ref := RX6) hx hb hts hin_7 hown hK hw 302 (by omega) c_302 rfl 24 (by decide) hf_179 (fun _ h => h) rfl dX6_number_28 ?_
  refine lv_iconst (v := nI 1) hx hb dX6_number_31 (by decide) ?_
  refine n_iadd hx hb dX6_number_32 ?_
  refine x_put (ci := 7) (C := RX6) (T := TX6) (n := 32) (ref := RX6) (fs' := mO ad th cap cl fs wk td rw sh ((fi + 1) + 1)) hx hb hts hin_7 tyX6 tyX6_ok nmX6 hown hK dd hw 302 (by omega) c_302 rfl 24 (by decide) hf_179 (fun _ h => h) rfl rfl rfl (Nat.le_of_ble_eq_true rfl) rfl dX6_number_33 (fun H locs hw => ?_)
  obtain ⟨f_4, ef_4⟩ : ∃ z, z = va_up f_3 302 (.inr (7, mO ad th cap cl fs wk td rw sh ((fi + 1) + 1))) := ⟨_, rfl⟩
  have hw : xw D vwCl N ad B s.heap f_4 H locs := by rw [ef_4]; exact hw
  have c_302 : f_4 302 = .inr (7, mO ad th cap cl fs wk td rw sh ((fi + 1) + 1)) := va_up_of ef_4
  refine lv_iinc (v := nI 2) (lv' := [(2, .int (nI 2)), (0, .ref (ad 302)), (1, .int x)]) hx hb dX6_number_36 hl (k := 0) rfl (by decide) (by decide) rfl (fun ls hl => ?_)
  refine lv_goto (tgt := 2) hx hb dX6_number_39 (by decide) ?_
  refine lv_iload_n hx hb dX6_number_2 rfl (lv_at hl 0 rfl) ?_
  refine lv_iconst (v := nI 4) hx hb dX6_number_3 (by decide) ?_
  refine n_icge (tgt := 42) hx hb dX6_number_4 (by decide) (by decide) (by decide) (fun h => absurd h (by decide)) (fun _ => ?_)
  refine lv_aload_n hx hb dX6_number_7 rfl (lv_at hl 1 rfl) ?_
  refine x_get (ci := 7) (C := RX6) (T := TX6) (n := 32) (ref := RX6) hx hb hts hin_7 hown hK hw 302 (by omega) c_302 rfl 25 (by decide) hf_64 (fun _ h => h) rfl dX6_number_8 ?_
  refine lv_aload_n hx hb dX6_number_11 rfl (lv_at hl 1 rfl) ?_
  refine x_get (ci := 7) (C := RX6) (T := TX6) (n := 32) (ref := RX6) hx hb hts hin_7 hown hK hw 302 (by omega) c_302 rfl 24 (by decide) hf_179 (fun _ h => h) rfl dX6_number_12 ?_
  refine lv_iload_n hx hb dX6_number_15 rfl (lv_at hl 2 rfl) ?_
  refine lv_bipush (v := nI 24) hx hb dX6_number_16 (by decide) ?_
  refine lv_bipush (v := nI 8) hx hb dX6_number_18 (by decide) ?_
  refine lv_iload_n hx hb dX6_number_20 rfl (lv_at hl 0 rfl) ?_
  refine n_imul hx hb dX6_number_21 ?_
  refine n_isub hx hb dX6_number_22 (by omega) ?_
  refine n_iushr hx hb dX6_number_23 ?_
  refine lv_i2b (v := (jushr x (nI (24 - (8 * 2)))).toInt8.toInt32) hx hb dX6_number_24 rfl ?_
  have c_319 : f_4 319 = ai (ca 1) 320 (upd (upd bf fi ((jushr x (nI (24 - (8 * 0)))).toInt8.toInt32)) (fi + 1) ((jushr x (nI (24 - (8 * 1)))).toInt8.toInt32)) := by rw [ef_4, va_up_ne _ _ (by decide)]; exact c_319
  refine x_bast (j := (fi + 1) + 1) (y := (jushr x (nI (24 - (8 * 2)))).toInt8.toInt32) hx hb hK dd hw 319 1 (by omega) c_319 rfl rfl (by omega) (by decide) (i8_i8 _) dX6_number_25 (fun H locs hw => ?_)
  obtain ⟨f_5, ef_5⟩ : ∃ z, z = va_up f_4 319 (ai (ca 1) 320 (upd (upd (upd bf fi ((jushr x (nI (24 - (8 * 0)))).toInt8.toInt32)) (fi + 1) ((jushr x (nI (24 - (8 * 1)))).toInt8.toInt32)) ((fi + 1) + 1) ((jushr x (nI (24 - (8 * 2)))).toInt8.toInt32))) := ⟨_, rfl⟩
  have hw : xw D vwCl N ad B s.heap f_5 H locs := by rw [ef_5]; exact hw
  have c_319 : f_5 319 = ai (ca 1) 320 (upd (upd (upd bf fi ((jushr x (nI (24 - (8 * 0)))).toInt8.toInt32)) (fi + 1) ((jushr x (nI (24 - (8 * 1)))).toInt8.toInt32)) ((fi + 1) + 1) ((jushr x (nI (24 - (8 * 2)))).toInt8.toInt32)) := va_up_of ef_5
  refine lv_aload_n hx hb dX6_number_26 rfl (lv_at hl 1 rfl) ?_
  refine lv_dup hx hb dX6_number_27 rfl ?_
  have c_302 : f_5 302 = .inr (7, mO ad th cap cl fs wk td rw sh ((fi + 1) + 1)) := by rw [ef_5, va_up_ne _ _ (by decide)]; exact c_302
  refine x_get (ci := 7) (C := RX6) (T := TX6) (n := 32) (ref := RX6) hx hb hts hin_7 hown hK hw 302 (by omega) c_302 rfl 24 (by decide) hf_179 (fun _ h => h) rfl dX6_number_28 ?_
  refine lv_iconst (v := nI 1) hx hb dX6_number_31 (by decide) ?_
  refine n_iadd hx hb dX6_number_32 ?_
  refine x_put (ci := 7) (C := RX6) (T := TX6) (n := 32) (ref := RX6) (fs' := mO ad th cap cl fs wk td rw sh (((fi + 1) + 1) + 1)) hx hb hts hin_7 tyX6 tyX6_ok nmX6 hown hK dd hw 302 (by omega) c_302 rfl 24 (by decide) hf_179 (fun _ h => h) rfl rfl rfl (Nat.le_of_ble_eq_true rfl) rfl dX6_number_33 (fun H locs hw => ?_)
  obtain ⟨f_6, ef_6⟩ : ∃ z, z = va_up f_5 302 (.inr (7, mO ad th cap cl fs wk td rw sh (((fi + 1) + 1) + 1))) := ⟨_, rfl⟩
  have hw : xw D vwCl N ad B s.heap f_6 H locs := by rw [ef_6]; exact hw
  have c_302 : f_6 302 = .inr (7, mO ad th cap cl fs wk td rw sh (((fi + 1) + 1) + 1)) := va_up_of ef_6
  refine lv_iinc (v := nI 3) (lv' := [(2, .int (nI 3)), (0, .ref (ad 302)), (1, .int x)]) hx hb dX6_number_36 hl (k := 0) rfl (by decide) (by decide) rfl (fun ls hl => ?_)
  refine lv_goto (tgt := 2) hx hb dX6_number_39 (by decide) ?_
  refine lv_iload_n hx hb dX6_number_2 rfl (lv_at hl 0 rfl) ?_
  refine lv_iconst (v := nI 4) hx hb dX6_number_3 (by decide) ?_
  refine n_icge (tgt := 42) hx hb dX6_number_4 (by decide) (by decide) (by decide) (fun h => absurd h (by decide)) (fun _ => ?_)
  refine lv_aload_n hx hb dX6_number_7 rfl (lv_at hl 1 rfl) ?_
  refine x_get (ci := 7) (C := RX6) (T := TX6) (n := 32) (ref := RX6) hx hb hts hin_7 hown hK hw 302 (by omega) c_302 rfl 25 (by decide) hf_64 (fun _ h => h) rfl dX6_number_8 ?_
  refine lv_aload_n hx hb dX6_number_11 rfl (lv_at hl 1 rfl) ?_
  refine x_get (ci := 7) (C := RX6) (T := TX6) (n := 32) (ref := RX6) hx hb hts hin_7 hown hK hw 302 (by omega) c_302 rfl 24 (by decide) hf_179 (fun _ h => h) rfl dX6_number_12 ?_
  refine lv_iload_n hx hb dX6_number_15 rfl (lv_at hl 2 rfl) ?_
  refine lv_bipush (v := nI 24) hx hb dX6_number_16 (by decide) ?_
  refine lv_bipush (v := nI 8) hx hb dX6_number_18 (by decide) ?_
  refine lv_iload_n hx hb dX6_number_20 rfl (lv_at hl 0 rfl) ?_
  refine n_imul hx hb dX6_number_21 ?_
  refine n_isub hx hb dX6_number_22 (by omega) ?_
  refine n_iushr hx hb dX6_number_23 ?_
  refine lv_i2b (v := (jushr x (nI (24 - (8 * 3)))).toInt8.toInt32) hx hb dX6_number_24 rfl ?_
  have c_319 : f_6 319 = ai (ca 1) 320 (upd (upd (upd bf fi ((jushr x (nI (24 - (8 * 0)))).toInt8.toInt32)) (fi + 1) ((jushr x (nI (24 - (8 * 1)))).toInt8.toInt32)) ((fi + 1) + 1) ((jushr x (nI (24 - (8 * 2)))).toInt8.toInt32)) := by rw [ef_6, va_up_ne _ _ (by decide)]; exact c_319
  refine x_bast (j := ((fi + 1) + 1) + 1) (y := (jushr x (nI (24 - (8 * 3)))).toInt8.toInt32) hx hb hK dd hw 319 1 (by omega) c_319 rfl rfl (by omega) (by decide) (i8_i8 _) dX6_number_25 (fun H locs hw => ?_)
  obtain ⟨f_7, ef_7⟩ : ∃ z, z = va_up f_6 319 (ai (ca 1) 320 (upd (upd (upd (upd bf fi ((jushr x (nI (24 - (8 * 0)))).toInt8.toInt32)) (fi + 1) ((jushr x (nI (24 - (8 * 1)))).toInt8.toInt32)) ((fi + 1) + 1) ((jushr x (nI (24 - (8 * 2)))).toInt8.toInt32)) (((fi + 1) + 1) + 1) ((jushr x (nI (24 - (8 * 3)))).toInt8.toInt32))) := ⟨_, rfl⟩
  have hw : xw D vwCl N ad B s.heap f_7 H locs := by rw [ef_7]; exact hw
  have c_319 : f_7 319 = ai (ca 1) 320 (upd (upd (upd (upd bf fi ((jushr x (nI (24 - (8 * 0)))).toInt8.toInt32)) (fi + 1) ((jushr x (nI (24 - (8 * 1)))).toInt8.toInt32)) ((fi + 1) + 1) ((jushr x (nI (24 - (8 * 2)))).toInt8.toInt32)) (((fi + 1) + 1) + 1) ((jushr x (nI (24 - (8 * 3)))).toInt8.toInt32)) := va_up_of ef_7
  refine lv_aload_n hx hb dX6_number_26 rfl (lv_at hl 1 rfl) ?_
  refine lv_dup hx hb dX6_number_27 rfl ?_
  have c_302 : f_7 302 = .inr (7, mO ad th cap cl fs wk td rw sh (((fi + 1) + 1) + 1)) := by rw [ef_7, va_up_ne _ _ (by decide)]; exact c_302
  refine x_get (ci := 7) (C := RX6) (T := TX6) (n := 32) (ref := RX6) hx hb hts hin_7 hown hK hw 302 (by omega) c_302 rfl 24 (by decide) hf_179 (fun _ h => h) rfl dX6_number_28 ?_
  refine lv_iconst (v := nI 1) hx hb dX6_number_31 (by decide) ?_
  refine n_iadd hx hb dX6_number_32 ?_
  refine x_put (ci := 7) (C := RX6) (T := TX6) (n := 32) (ref := RX6) (fs' := mO ad th cap cl fs wk td rw sh ((((fi + 1) + 1) + 1) + 1)) hx hb hts hin_7 tyX6 tyX6_ok nmX6 hown hK dd hw 302 (by omega) c_302 rfl 24 (by decide) hf_179 (fun _ h => h) rfl rfl rfl (Nat.le_of_ble_eq_true rfl) rfl dX6_number_33 (fun H locs hw => ?_)
  obtain ⟨f_8, ef_8⟩ : ∃ z, z = va_up f_7 302 (.inr (7, mO ad th cap cl fs wk td rw sh ((((fi + 1) + 1) + 1) + 1))) := ⟨_, rfl⟩
  have hw : xw D vwCl N ad B s.heap f_8 H locs := by rw [ef_8]; exact hw
  have c_302 : f_8 302 = .inr (7, mO ad th cap cl fs wk td rw sh ((((fi + 1) + 1) + 1) + 1)) := va_up_of ef_8
  refine lv_iinc (v := nI 4) (lv' := [(2, .int (nI 4)), (0, .ref (ad 302)), (1, .int x)]) hx hb dX6_number_36 hl (k := 0) rfl (by decide) (by decide) rfl (fun ls hl => ?_)
  refine lv_goto (tgt := 2) hx hb dX6_number_39 (by decide) ?_
  refine lv_iload_n hx hb dX6_number_2 rfl (lv_at hl 0 rfl) ?_
  refine lv_iconst (v := nI 4) hx hb dX6_number_3 (by decide) ?_
  refine n_icge (tgt := 42) hx hb dX6_number_4 (by decide) (by decide) (by decide) (fun _ => ?_) (fun h => absurd h (by decide))
  exact x_vret hx hb hr hlocks hw (by simp only [ef_8, ef_7, ef_6, ef_5, ef_4, ef_3, ef_2, ef_1, up_aa, up_aba _ _ _ _ (show (319 : Nat) ≠ 302 by decide)]; rw [up_swap _ _ _ (show (319 : Nat) ≠ 302 by decide)]; rfl) dX6_number_42
