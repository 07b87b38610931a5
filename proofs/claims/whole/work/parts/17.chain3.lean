/-! ===== the rows of the digests all at once ===== -/
def vrow (ca : Nat → ClassId) (f : Nat → va_E) (M : Nat → Nat → Int32) : Nat → va_E := fun y => if 100 ≤ y ∧ y < 300 then ai (ca 0) 8 (M (y - 100)) else f y
theorem vrow_ne (ca : Nat → ClassId) (f : Nat → va_E) (M : Nat → Nat → Int32) {y : Nat} (h : y < 100 ∨ 300 ≤ y) : vrow ca f M y = f y := if_neg (by omega)
theorem vrow_at (ca : Nat → ClassId) (f : Nat → va_E) (M : Nat → Nat → Int32) {i : Nat} (h : i < 200) : vrow ca f M (100 + i) = ai (ca 0) 8 (M i) := by
  unfold vrow
  rw [if_pos (by omega), Nat.add_sub_cancel_left]
theorem vrow_set (ca : Nat → ClassId) (f : Nat → va_E) (M : Nat → Nat → Int32) (r : Nat → Int32) {k : Nat} (h : k < 200) : va_up (vrow ca f M) (100 + k) (ai (ca 0) 8 r) = vrow ca f (va_up M k r) := by
  funext y
  by_cases e : y = 100 + k
  · subst e
    rw [va_up_self, vrow_at _ _ _ h, va_up_self]
  · rw [va_up_ne _ _ e]
    unfold vrow
    by_cases h1 : 100 ≤ y ∧ y < 300
    · rw [if_pos h1, if_pos h1, va_up_ne _ _ (by omega)]
    · rw [if_neg h1, if_neg h1]
theorem vrow_set3 (ca : Nat → ClassId) (f : Nat → va_E) (M : Nat → Nat → Int32) (r : Nat → Int32) (a b c : va_E) {k : Nat} (h : k < 200) : va_up (va_up (va_up (va_up (vrow ca f M) 96 a) 97 b) 98 c) (100 + k) (ai (ca 0) 8 r) = va_up (va_up (va_up (vrow ca f (va_up M k r)) 96 a) 97 b) 98 c := by
  rw [up_swap (a := 98) _ _ _ (by omega), up_swap (a := 97) _ _ _ (by omega), up_swap (a := 96) _ _ _ (by omega), vrow_set _ _ _ _ h]
theorem vrow_id (ca : Nat → ClassId) (f : Nat → va_E) (M : Nat → Nat → Int32) (h : ∀ i, i < 200 → f (100 + i) = ai (ca 0) 8 (M i)) : vrow ca f M = f := by
  funext y
  unfold vrow
  by_cases h1 : 100 ≤ y ∧ y < 300
  · rw [if_pos h1, ← h (y - 100) (by omega), show 100 + (y - 100) = y by omega]
  · rw [if_neg h1]
theorem up_3 (f : Nat → va_E) (a b c a' b' c' : va_E) : va_up (va_up (va_up (va_up (va_up (va_up f 96 a) 97 b) 98 c) 96 a') 97 b') 98 c' = va_up (va_up (va_up f 96 a') 97 b') 98 c' := by
  funext j
  simp only [va_up]
  by_cases h1 : j = 98
  · simp [h1]
  · by_cases h2 : j = 97
    · simp [h2]
    · by_cases h3 : j = 96
      · simp [h3]
      · simp [h1, h2, h3]
/-- those behind i come forward, as far as k -/
def shl (g : Nat → Int32) (i k : Nat) : Nat → Int32 := fun x => if i ≤ x ∧ x < k then g (x + 1) else g x
def mrem (M : Nat → Nat → Int32) (i k : Nat) : Nat → Nat → Int32 := fun x => if i ≤ x ∧ x < k then cpyTo (M x) (M (x + 1)) 8 else M x
theorem shl_step (g : Nat → Int32) (i k : Nat) (h : i ≤ k) : upd (shl g i k) k (shl g i k (k + 1)) = shl g i (k + 1) := by
  funext x
  by_cases e : x = k
  · subst e
    rw [pk_us]
    unfold shl
    rw [if_neg (by omega), if_pos (by omega)]
  · rw [pk_un e]
    unfold shl
    by_cases h1 : i ≤ x ∧ x < k
    · rw [if_pos h1, if_pos (by omega)]
    · rw [if_neg h1, if_neg (by omega)]
theorem shl_0 (g : Nat → Int32) (i : Nat) : shl g i i = g := by
  funext x
  exact if_neg (by omega)
theorem mrem_0 (M : Nat → Nat → Int32) (i : Nat) : mrem M i i = M := by
  funext x
  exact if_neg (by omega)
theorem mrem_out {M : Nat → Nat → Int32} {i k x : Nat} (h : k ≤ x) : mrem M i k x = M x := if_neg (by omega)
theorem mrem_step (M : Nat → Nat → Int32) (i k : Nat) (h : i ≤ k) : va_up (mrem M i k) k (cpyTo (M k) (M (k + 1)) 8) = mrem M i (k + 1) := by
  funext x
  by_cases e : x = k
  · subst e
    rw [va_up_self]
    exact (if_pos (by omega)).symm
  · rw [va_up_ne _ _ e]
    unfold mrem
    by_cases h1 : i ≤ x ∧ x < k
    · rw [if_pos h1, if_pos (by omega)]
    · rw [if_neg h1, if_neg (by omega)]
theorem mrem_same (M : Nat → Nat → Int32) (i k : Nat) : va_up (mrem M i k) k (cpyTo (M k) (M (k + 1)) 0) = mrem M i k := by
  rw [cp_0, ← mrem_out (M := M) (i := i) (Nat.le_refl k), up_same]

abbrev rmX3_remove : Room := { frames := 1, cells := 0, slots := 0, locals := 21 }

set_option maxHeartbeats 4000000 in
set_option maxRecDepth 100000 in
theorem k_X3_remove_in (l : Launch) (D : va_G) (ca : Nat → ClassId) (N : Nat) (ad : Nat → Nat) (B tR tK : Nat) (f : Nat → va_E) (dd : xD N ad B) (rc : Nat) (kn : Nat → Int32) (fn : Nat → Int32) (dn : Nat → Int32) (M : Nat → Nat → Int32) (i : Nat) (c_90 : f 90 = .inr (4, [.ref (ad 91), .ref (ad 94), .ref (ad 96), .ref (ad 97), .ref (ad 98), .ref (ad 99), .int (nI rc)])) (c_96 : f 96 = ai (ca 0) 200 kn) (c_97 : f 97 = ai (ca 0) 200 fn) (c_98 : f 98 = ai (ca 0) 200 dn) (c_99 : f 99 = aq (ca 4) 200 (fun i => some (ad (100 + i)))) (F_M : ∀ i, i < 200 → f (100 + i) = ai (ca 0) 8 (M i)) (hN : 302 ≤ N) (hi : i < rc) (hrc : rc ≤ 200) : xMv l yX3_remove wsX3_remove rmX3_remove [.ref (ad 90), .int (nI i)] D ca N ad B tR tK f (fun u => u = va_up (va_up (va_up (va_up (vrow ca f (mrem M i (rc - 1))) 96 (ai (ca 0) 200 (shl kn i (rc - 1)))) 97 (ai (ca 0) 200 (shl fn i (rc - 1)))) 98 (ai (ca 0) 200 (shl dn i (rc - 1)))) 90 (.inr (4, [.ref (ad 91), .ref (ad 94), .ref (ad 96), .ref (ad 97), .ref (ad 98), .ref (ad 99), .int (nI (rc - 1))]))) := by
  refine x_open (cc := cX3_remove) (maxL := 4) (ret := none) (by decide) rfl (Nat.le_of_ble_eq_true rfl) ?_
  intro p e s m below meth c ls hx hb hml hown hts hr hlocks hnm hB hK hE hw hl
  have hown : s.vm.findClass RX3 = some m.cls := hown
  have hl : lv_has ls 4 [(0, .ref (ad 90)), (1, .int (nI i))] := hl
  have hin_4 : ∀ w ∈ u_ws RX3 TX3 7, w ∈ wsX3_remove := by decide +kernel
  have hf_37 := hts (.fieldLink RX3 37 "FixityRows$RowChain" "digests" "[[I") (by decide +kernel)
  have hf_40 := hts (.fieldLink RX3 40 "FixityRows$RowChain" "count" "I") (by decide +kernel)
  have hf_25 := hts (.fieldLink RX3 25 "FixityRows$RowChain" "kinds" "[I") (by decide +kernel)
  have hf_29 := hts (.fieldLink RX3 29 "FixityRows$RowChain" "fileNumbers" "[I") (by decide +kernel)
  have hf_32 := hts (.fieldLink RX3 32 "FixityRows$RowChain" "days" "[I") (by decide +kernel)
  have b_90 := c_90
  have b_96 := c_96
  have b_97 := c_97
  have b_98 := c_98
  have b_99 := c_99
  have P_11 : ∀ (n_11 : Nat) (k : Nat) (H : Heap) (locs : List Loc) (ls : Array Slot), (rc - 1) + 1 ≤ k + n_11 → (i ≤ k) → (k ≤ rc - 1) → xw D vwCl N ad B s.heap (va_up (va_up (va_up (vrow ca f (mrem M i k)) 96 (ai (ca 0) 200 (shl kn i k))) 97 (ai (ca 0) 200 (shl fn i k))) 98 (ai (ca 0) 200 (shl dn i k))) H locs → lv_has ls 4 [(0, .ref (ad 90)), (1, .int (nI i)), (2, .int (nI k))] → W p l e rmX3_remove s m ([.ref (ad 90), .int (nI i)] : List Value).toArray below meth c H locs 0 0 (MQ below (xQv (fun u => u = va_up (va_up (va_up (va_up (vrow ca f (mrem M i (rc - 1))) 96 (ai (ca 0) 200 (shl kn i (rc - 1)))) 97 (ai (ca 0) 200 (shl fn i (rc - 1)))) 98 (ai (ca 0) 200 (shl dn i (rc - 1)))) 90 (.inr (4, [.ref (ad 91), .ref (ad 94), .ref (ad 96), .ref (ad 97), .ref (ad 98), .ref (ad 99), .int (nI (rc - 1))]))) D N ad B) ([.ref (ad 90), .int (nI i)] : List Value).toArray s 0 0 (xA B)) (F0 m 11 ls []) := by
    intro n_11
    induction n_11 with
    | zero =>
      intro k H locs ls hm_11 hk1 hk0 hw hl
      exact absurd hm_11 (by omega)
    | succ n_11 ih_11 =>
      intro k H locs ls hm_11 hk1 hk0 hw hl
      have P_65 : ∀ (n_65 : Nat) (k : Nat) (j : Nat) (H : Heap) (locs : List Loc) (ls : Array Slot), 8 + 1 ≤ j + n_65 → (i ≤ k) → (k < rc - 1) → ((rc - 1) + 1 ≤ k + (n_11 + 1)) → (j ≤ 8) → xw D vwCl N ad B s.heap (va_up (va_up (va_up (vrow ca f (va_up (mrem M i k) k (cpyTo (M k) (M (k + 1)) j))) 96 (ai (ca 0) 200 (shl kn i (k + 1)))) 97 (ai (ca 0) 200 (shl fn i (k + 1)))) 98 (ai (ca 0) 200 (shl dn i (k + 1)))) H locs → lv_has ls 4 [(0, .ref (ad 90)), (1, .int (nI i)), (2, .int (nI k)), (3, .int (nI j))] → W p l e rmX3_remove s m ([.ref (ad 90), .int (nI i)] : List Value).toArray below meth c H locs 0 0 (MQ below (xQv (fun u => u = va_up (va_up (va_up (va_up (vrow ca f (mrem M i (rc - 1))) 96 (ai (ca 0) 200 (shl kn i (rc - 1)))) 97 (ai (ca 0) 200 (shl fn i (rc - 1)))) 98 (ai (ca 0) 200 (shl dn i (rc - 1)))) 90 (.inr (4, [.ref (ad 91), .ref (ad 94), .ref (ad 96), .ref (ad 97), .ref (ad 98), .ref (ad 99), .int (nI (rc - 1))]))) D N ad B) ([.ref (ad 90), .int (nI i)] : List Value).toArray s 0 0 (xA B)) (F0 m 65 ls []) := by
        intro n_65
        induction n_65 with
        | zero =>
          intro k j H locs ls hm_65 hk1 hk2 hu hj hw hl
          exact absurd hm_65 (by omega)
        | succ n_65 ih_65 =>
          intro k j H locs ls hm_65 hk1 hk2 hu hj hw hl
          have c_90 := b_90
          have c_96 := b_96
          have c_97 := b_97
          have c_98 := b_98
          have c_99 := b_99
          obtain ⟨f_1, ef_1⟩ : ∃ z, z = va_up (va_up (va_up (vrow ca f (va_up (mrem M i k) k (cpyTo (M k) (M (k + 1)) j))) 96 (ai (ca 0) 200 (shl kn i (k + 1)))) 97 (ai (ca 0) 200 (shl fn i (k + 1)))) 98 (ai (ca 0) 200 (shl dn i (k + 1))) := ⟨_, rfl⟩
          have hw : xw D vwCl N ad B s.heap f_1 H locs := by rw [ef_1]; exact hw
          have c_96 : f_1 96 = ai (ca 0) 200 (shl kn i (k + 1)) := by rw [ef_1, va_up_ne _ _ (by decide), va_up_ne _ _ (by decide), va_up_self]
          have c_97 : f_1 97 = ai (ca 0) 200 (shl fn i (k + 1)) := by rw [ef_1, va_up_ne _ _ (by decide), va_up_self]
          have c_98 : f_1 98 = ai (ca 0) 200 (shl dn i (k + 1)) := by rw [ef_1, va_up_self]
          refine lv_iload_n hx hb dX3_remove_65 rfl (lv_at hl 3 rfl) ?_
          refine lv_bipush (v := nI 8) hx hb dX3_remove_66 (by decide) ?_
          refine n_icge (tgt := 95) hx hb dX3_remove_68 (by decide) (by omega) (by omega) (fun c_68 => ?_) (fun c_68 => ?_)
          · refine lv_iinc (v := nI (k + 1)) (lv' := [(2, .int (nI (k + 1))), (0, .ref (ad 90)), (1, .int (nI i)), (3, .int (nI j))]) hx hb dX3_remove_95 hl (k := 2) rfl (by rw [show Int32.ofInt 1 = nI 1 from rfl]; exact nI_add _ _) (by decide) rfl (fun ls hl => ?_)
            refine lv_goto (tgt := 11) hx hb dX3_remove_98 (by decide) ?_
            have hw : xw D vwCl N ad B s.heap (va_up (va_up (va_up (vrow ca f (mrem M i (k + 1))) 96 (ai (ca 0) 200 (shl kn i (k + 1)))) 97 (ai (ca 0) 200 (shl fn i (k + 1)))) 98 (ai (ca 0) 200 (shl dn i (k + 1)))) H locs := by
              have ez : f_1 = va_up (va_up (va_up (vrow ca f (mrem M i (k + 1))) 96 (ai (ca 0) 200 (shl kn i (k + 1)))) 97 (ai (ca 0) 200 (shl fn i (k + 1)))) 98 (ai (ca 0) 200 (shl dn i (k + 1))) := by have ej : j = 8 := (by omega); subst ej; simp only [ef_1, mrem_step M i k hk1]
              rw [← ez]; exact hw
            exact ih_11 (k + 1) _ _ _ (by omega) (by omega) (by omega) hw (lv_sub hl [1, 2, 0] rfl)
          · refine lv_aload_n hx hb dX3_remove_71 rfl (lv_at hl 0 rfl) ?_
            have c_90 : f_1 90 = .inr (4, [.ref (ad 91), .ref (ad 94), .ref (ad 96), .ref (ad 97), .ref (ad 98), .ref (ad 99), .int (nI rc)]) := by rw [ef_1, va_up_ne _ _ (by decide), va_up_ne _ _ (by decide), va_up_ne _ _ (by decide), vrow_ne _ _ _ (by omega)]; exact c_90
            refine x_get (ci := 4) (C := RX3) (T := TX3) (n := 7) (ref := RX3) hx hb hts hin_4 hown hK hw 90 (by omega) c_90 rfl 5 (by decide) hf_37 (fun _ h => h) rfl dX3_remove_72 ?_
            refine lv_iload_n hx hb dX3_remove_75 rfl (lv_at hl 2 rfl) ?_
            have c_99 : f_1 99 = aq (ca 4) 200 (fun i => some (ad (100 + i))) := by rw [ef_1, va_up_ne _ _ (by decide), va_up_ne _ _ (by decide), va_up_ne _ _ (by decide), vrow_ne _ _ _ (by omega)]; exact c_99
            refine x_aaldA (j := k) (a := ad (100 + k)) hx hb hK hw 99 4 (by omega) c_99 rfl rfl (by omega) (by decide) rfl dX3_remove_76 ?_
            refine lv_iload_n hx hb dX3_remove_77 rfl (lv_at hl 3 rfl) ?_
            refine lv_aload_n hx hb dX3_remove_78 rfl (lv_at hl 0 rfl) ?_
            refine x_get (ci := 4) (C := RX3) (T := TX3) (n := 7) (ref := RX3) hx hb hts hin_4 hown hK hw 90 (by omega) c_90 rfl 5 (by decide) hf_37 (fun _ h => h) rfl dX3_remove_79 ?_
            refine lv_iload_n hx hb dX3_remove_82 rfl (lv_at hl 2 rfl) ?_
            refine lv_iconst (v := nI 1) hx hb dX3_remove_83 (by decide) ?_
            refine n_iadd hx hb dX3_remove_84 ?_
            refine x_aaldA (j := k + 1) (a := ad (100 + (k + 1))) hx hb hK hw 99 4 (by omega) c_99 rfl rfl (by omega) (by decide) rfl dX3_remove_85 ?_
            refine lv_iload_n hx hb dX3_remove_86 rfl (lv_at hl 3 rfl) ?_
            have c_100_k_1 : f_1 (100 + (k + 1)) = ai (ca 0) 8 ((va_up (mrem M i k) k (cpyTo (M k) (M (k + 1)) j)) (k + 1)) := by rw [ef_1, va_up_ne _ _ (by omega), va_up_ne _ _ (by omega), va_up_ne _ _ (by omega)]; exact (vrow_at _ _ _ (by omega))
            have c_100_k_1 : f_1 (100 + (k + 1)) = ai (ca 0) 8 (M (k + 1)) := by rw [c_100_k_1]; rw [va_up_ne _ _ (by omega), mrem_out (by omega)]
            refine x_iald (j := j) hx hb hK hw (100 + (k + 1)) 0 (by omega) c_100_k_1 rfl rfl (by omega) (by decide) dX3_remove_87 ?_
            refine lv_topi (fun x_2 ex_2 => ?_)
            have c_100_k : f_1 (100 + k) = ai (ca 0) 8 ((va_up (mrem M i k) k (cpyTo (M k) (M (k + 1)) j)) k) := by rw [ef_1, va_up_ne _ _ (by omega), va_up_ne _ _ (by omega), va_up_ne _ _ (by omega)]; exact (vrow_at _ _ _ (by omega))
            have c_100_k : f_1 (100 + k) = ai (ca 0) 8 (cpyTo (M k) (M (k + 1)) j) := by rw [c_100_k]; rw [va_up_self]
            refine x_iast (j := j) hx hb hK dd hw (100 + k) 0 (by omega) c_100_k rfl rfl (by omega) (by decide) dX3_remove_88 (fun H locs hw => ?_)
            obtain ⟨f_3, ef_3⟩ : ∃ z, z = va_up f_1 (100 + k) (ai (ca 0) 8 (upd (cpyTo (M k) (M (k + 1)) j) j x_2)) := ⟨_, rfl⟩
            have hw : xw D vwCl N ad B s.heap f_3 H locs := by rw [ef_3]; exact hw
            have c_100_k : f_3 (100 + k) = ai (ca 0) 8 (upd (cpyTo (M k) (M (k + 1)) j) j x_2) := va_up_of ef_3
            refine lv_iinc (v := nI (j + 1)) (lv' := [(3, .int (nI (j + 1))), (0, .ref (ad 90)), (1, .int (nI i)), (2, .int (nI k))]) hx hb dX3_remove_89 hl (k := 3) rfl (by rw [show Int32.ofInt 1 = nI 1 from rfl]; exact nI_add _ _) (by decide) rfl (fun ls hl => ?_)
            refine lv_goto (tgt := 65) hx hb dX3_remove_92 (by decide) ?_
            have hw : xw D vwCl N ad B s.heap (va_up (va_up (va_up (vrow ca f (va_up (mrem M i k) k (cpyTo (M k) (M (k + 1)) (j + 1)))) 96 (ai (ca 0) 200 (shl kn i (k + 1)))) 97 (ai (ca 0) 200 (shl fn i (k + 1)))) 98 (ai (ca 0) 200 (shl dn i (k + 1)))) H locs := by
              have ez : f_3 = va_up (va_up (va_up (vrow ca f (va_up (mrem M i k) k (cpyTo (M k) (M (k + 1)) (j + 1)))) 96 (ai (ca 0) 200 (shl kn i (k + 1)))) 97 (ai (ca 0) 200 (shl fn i (k + 1)))) 98 (ai (ca 0) 200 (shl dn i (k + 1))) := by simp only [ef_3, ex_2, ef_1, vrow_set3 _ _ _ _ _ _ _ (show k < 200 by omega), up_aa, cp_step]
              rw [← ez]; exact hw
            exact ih_65 k (j + 1) _ _ _ (by omega) (by omega) (by omega) (by omega) (by omega) hw (lv_sub hl [1, 2, 3, 0] rfl)
      have c_90 := b_90
      have c_96 := b_96
      have c_97 := b_97
      have c_98 := b_98
      have c_99 := b_99
      obtain ⟨f_4, ef_4⟩ : ∃ z, z = va_up (va_up (va_up (vrow ca f (mrem M i k)) 96 (ai (ca 0) 200 (shl kn i k))) 97 (ai (ca 0) 200 (shl fn i k))) 98 (ai (ca 0) 200 (shl dn i k)) := ⟨_, rfl⟩
      have hw : xw D vwCl N ad B s.heap f_4 H locs := by rw [ef_4]; exact hw
      have c_96 : f_4 96 = ai (ca 0) 200 (shl kn i k) := by rw [ef_4, va_up_ne _ _ (by decide), va_up_ne _ _ (by decide), va_up_self]
      have c_97 : f_4 97 = ai (ca 0) 200 (shl fn i k) := by rw [ef_4, va_up_ne _ _ (by decide), va_up_self]
      have c_98 : f_4 98 = ai (ca 0) 200 (shl dn i k) := by rw [ef_4, va_up_self]
      refine lv_iload_n hx hb dX3_remove_11 rfl (lv_at hl 2 rfl) ?_
      refine lv_aload_n hx hb dX3_remove_12 rfl (lv_at hl 0 rfl) ?_
      have c_90 : f_4 90 = .inr (4, [.ref (ad 91), .ref (ad 94), .ref (ad 96), .ref (ad 97), .ref (ad 98), .ref (ad 99), .int (nI rc)]) := by rw [ef_4, va_up_ne _ _ (by decide), va_up_ne _ _ (by decide), va_up_ne _ _ (by decide), vrow_ne _ _ _ (by omega)]; exact c_90
      refine x_get (ci := 4) (C := RX3) (T := TX3) (n := 7) (ref := RX3) hx hb hts hin_4 hown hK hw 90 (by omega) c_90 rfl 6 (by decide) hf_40 (fun _ h => h) rfl dX3_remove_13 ?_
      refine lv_iconst (v := nI 1) hx hb dX3_remove_16 (by decide) ?_
      refine n_isub hx hb dX3_remove_17 (by omega) ?_
      refine n_icge (tgt := 101) hx hb dX3_remove_18 (by decide) (by omega) (by omega) (fun c_18 => ?_) (fun c_18 => ?_)
      · refine lv_aload_n hx hb dX3_remove_101 rfl (lv_at hl 0 rfl) ?_
        refine lv_dup hx hb dX3_remove_102 rfl ?_
        refine x_get (ci := 4) (C := RX3) (T := TX3) (n := 7) (ref := RX3) hx hb hts hin_4 hown hK hw 90 (by omega) c_90 rfl 6 (by decide) hf_40 (fun _ h => h) rfl dX3_remove_103 ?_
        refine lv_iconst (v := nI 1) hx hb dX3_remove_106 (by decide) ?_
        refine n_isub hx hb dX3_remove_107 (by omega) ?_
        refine x_put (ci := 4) (C := RX3) (T := TX3) (n := 7) (ref := RX3) (fs' := [.ref (ad 91), .ref (ad 94), .ref (ad 96), .ref (ad 97), .ref (ad 98), .ref (ad 99), .int (nI (rc - 1))]) hx hb hts hin_4 tyX3 tyX3_ok nmX3 hown hK dd hw 90 (by omega) c_90 rfl 6 (by decide) hf_40 (fun _ h => h) rfl rfl rfl (Nat.le_of_ble_eq_true rfl) rfl dX3_remove_108 (fun H locs hw => ?_)
        obtain ⟨f_5, ef_5⟩ : ∃ z, z = va_up f_4 90 (.inr (4, [.ref (ad 91), .ref (ad 94), .ref (ad 96), .ref (ad 97), .ref (ad 98), .ref (ad 99), .int (nI (rc - 1))])) := ⟨_, rfl⟩
        have hw : xw D vwCl N ad B s.heap f_5 H locs := by rw [ef_5]; exact hw
        have c_90 : f_5 90 = .inr (4, [.ref (ad 91), .ref (ad 94), .ref (ad 96), .ref (ad 97), .ref (ad 98), .ref (ad 99), .int (nI (rc - 1))]) := va_up_of ef_5
        exact x_vret hx hb hr hlocks hw (by have ek : k = rc - 1 := (by omega); subst ek; simp only [ef_5, ef_4]) dX3_remove_111
      · refine lv_aload_n hx hb dX3_remove_21 rfl (lv_at hl 0 rfl) ?_
        refine x_get (ci := 4) (C := RX3) (T := TX3) (n := 7) (ref := RX3) hx hb hts hin_4 hown hK hw 90 (by omega) c_90 rfl 2 (by decide) hf_25 (fun _ h => h) rfl dX3_remove_22 ?_
        refine lv_iload_n hx hb dX3_remove_25 rfl (lv_at hl 2 rfl) ?_
        refine lv_aload_n hx hb dX3_remove_26 rfl (lv_at hl 0 rfl) ?_
        refine x_get (ci := 4) (C := RX3) (T := TX3) (n := 7) (ref := RX3) hx hb hts hin_4 hown hK hw 90 (by omega) c_90 rfl 2 (by decide) hf_25 (fun _ h => h) rfl dX3_remove_27 ?_
        refine lv_iload_n hx hb dX3_remove_30 rfl (lv_at hl 2 rfl) ?_
        refine lv_iconst (v := nI 1) hx hb dX3_remove_31 (by decide) ?_
        refine n_iadd hx hb dX3_remove_32 ?_
        refine x_iald (j := k + 1) hx hb hK hw 96 0 (by omega) c_96 rfl rfl (by omega) (by decide) dX3_remove_33 ?_
        refine lv_topi (fun x_6 ex_6 => ?_)
        refine x_iast (j := k) hx hb hK dd hw 96 0 (by omega) c_96 rfl rfl (by omega) (by decide) dX3_remove_34 (fun H locs hw => ?_)
        obtain ⟨f_7, ef_7⟩ : ∃ z, z = va_up f_4 96 (ai (ca 0) 200 (upd (shl kn i k) k x_6)) := ⟨_, rfl⟩
        have hw : xw D vwCl N ad B s.heap f_7 H locs := by rw [ef_7]; exact hw
        have c_96 : f_7 96 = ai (ca 0) 200 (upd (shl kn i k) k x_6) := va_up_of ef_7
        refine lv_aload_n hx hb dX3_remove_35 rfl (lv_at hl 0 rfl) ?_
        have c_90 : f_7 90 = .inr (4, [.ref (ad 91), .ref (ad 94), .ref (ad 96), .ref (ad 97), .ref (ad 98), .ref (ad 99), .int (nI rc)]) := by rw [ef_7, va_up_ne _ _ (by decide)]; exact c_90
        refine x_get (ci := 4) (C := RX3) (T := TX3) (n := 7) (ref := RX3) hx hb hts hin_4 hown hK hw 90 (by omega) c_90 rfl 3 (by decide) hf_29 (fun _ h => h) rfl dX3_remove_36 ?_
        refine lv_iload_n hx hb dX3_remove_39 rfl (lv_at hl 2 rfl) ?_
        refine lv_aload_n hx hb dX3_remove_40 rfl (lv_at hl 0 rfl) ?_
        refine x_get (ci := 4) (C := RX3) (T := TX3) (n := 7) (ref := RX3) hx hb hts hin_4 hown hK hw 90 (by omega) c_90 rfl 3 (by decide) hf_29 (fun _ h => h) rfl dX3_remove_41 ?_
        refine lv_iload_n hx hb dX3_remove_44 rfl (lv_at hl 2 rfl) ?_
        refine lv_iconst (v := nI 1) hx hb dX3_remove_45 (by decide) ?_
        refine n_iadd hx hb dX3_remove_46 ?_
        have c_97 : f_7 97 = ai (ca 0) 200 (shl fn i k) := by rw [ef_7, va_up_ne _ _ (by decide)]; exact c_97
        refine x_iald (j := k + 1) hx hb hK hw 97 0 (by omega) c_97 rfl rfl (by omega) (by decide) dX3_remove_47 ?_
        refine lv_topi (fun x_8 ex_8 => ?_)
        refine x_iast (j := k) hx hb hK dd hw 97 0 (by omega) c_97 rfl rfl (by omega) (by decide) dX3_remove_48 (fun H locs hw => ?_)
        obtain ⟨f_9, ef_9⟩ : ∃ z, z = va_up f_7 97 (ai (ca 0) 200 (upd (shl fn i k) k x_8)) := ⟨_, rfl⟩
        have hw : xw D vwCl N ad B s.heap f_9 H locs := by rw [ef_9]; exact hw
        have c_97 : f_9 97 = ai (ca 0) 200 (upd (shl fn i k) k x_8) := va_up_of ef_9
        refine lv_aload_n hx hb dX3_remove_49 rfl (lv_at hl 0 rfl) ?_
        have c_90 : f_9 90 = .inr (4, [.ref (ad 91), .ref (ad 94), .ref (ad 96), .ref (ad 97), .ref (ad 98), .ref (ad 99), .int (nI rc)]) := by rw [ef_9, va_up_ne _ _ (by decide)]; exact c_90
        refine x_get (ci := 4) (C := RX3) (T := TX3) (n := 7) (ref := RX3) hx hb hts hin_4 hown hK hw 90 (by omega) c_90 rfl 4 (by decide) hf_32 (fun _ h => h) rfl dX3_remove_50 ?_
        refine lv_iload_n hx hb dX3_remove_53 rfl (lv_at hl 2 rfl) ?_
        refine lv_aload_n hx hb dX3_remove_54 rfl (lv_at hl 0 rfl) ?_
        refine x_get (ci := 4) (C := RX3) (T := TX3) (n := 7) (ref := RX3) hx hb hts hin_4 hown hK hw 90 (by omega) c_90 rfl 4 (by decide) hf_32 (fun _ h => h) rfl dX3_remove_55 ?_
        refine lv_iload_n hx hb dX3_remove_58 rfl (lv_at hl 2 rfl) ?_
        refine lv_iconst (v := nI 1) hx hb dX3_remove_59 (by decide) ?_
        refine n_iadd hx hb dX3_remove_60 ?_
        have c_98 : f_9 98 = ai (ca 0) 200 (shl dn i k) := by rw [ef_9, va_up_ne _ _ (by decide), ef_7, va_up_ne _ _ (by decide)]; exact c_98
        refine x_iald (j := k + 1) hx hb hK hw 98 0 (by omega) c_98 rfl rfl (by omega) (by decide) dX3_remove_61 ?_
        refine lv_topi (fun x_10 ex_10 => ?_)
        refine x_iast (j := k) hx hb hK dd hw 98 0 (by omega) c_98 rfl rfl (by omega) (by decide) dX3_remove_62 (fun H locs hw => ?_)
        obtain ⟨f_11, ef_11⟩ : ∃ z, z = va_up f_9 98 (ai (ca 0) 200 (upd (shl dn i k) k x_10)) := ⟨_, rfl⟩
        have hw : xw D vwCl N ad B s.heap f_11 H locs := by rw [ef_11]; exact hw
        have c_98 : f_11 98 = ai (ca 0) 200 (upd (shl dn i k) k x_10) := va_up_of ef_11
        refine lv_iconst (v := nI 0) hx hb dX3_remove_63 (by decide) ?_
        refine lv_istore_n (lv' := [(3, .int (nI 0)), (0, .ref (ad 90)), (1, .int (nI i)), (2, .int (nI k))]) hx hb dX3_remove_64 rfl hl (by decide) rfl (fun ls hl => ?_)
        have hw : xw D vwCl N ad B s.heap (va_up (va_up (va_up (vrow ca f (va_up (mrem M i k) k (cpyTo (M k) (M (k + 1)) 0))) 96 (ai (ca 0) 200 (shl kn i (k + 1)))) 97 (ai (ca 0) 200 (shl fn i (k + 1)))) 98 (ai (ca 0) 200 (shl dn i (k + 1)))) H locs := by
          have ez : f_11 = va_up (va_up (va_up (vrow ca f (va_up (mrem M i k) k (cpyTo (M k) (M (k + 1)) 0))) 96 (ai (ca 0) 200 (shl kn i (k + 1)))) 97 (ai (ca 0) 200 (shl fn i (k + 1)))) 98 (ai (ca 0) 200 (shl dn i (k + 1))) := by rw [mrem_same]; simp only [ef_11, ex_10, ef_9, ex_8, ef_7, ex_6, ef_4, up_3, shl_step _ i k hk1]
          rw [← ez]; exact hw
        exact P_65 9 k 0 _ _ _ (by omega) (by omega) (by omega) (by omega) (by omega) hw (lv_sub hl [1, 2, 3, 0] rfl)
  refine lv_aload_n hx hb dX3_remove_0 rfl (lv_at hl 0 rfl) ?_
  refine lv_iload_n hx hb dX3_remove_1 rfl (lv_at hl 1 rfl) ?_
  refine x_Vi (q := 90) (As := [.int (nI i)]) (rest := []) ⟨hx, hb, hml, hown, hts⟩ (k_X3_has_in l D ca N ad B tR tK f dd rc i c_90  (by omega) (by omega) (by omega)) (cwV 1 hts gX3_remove_X3_has rfl rfl rfl (by decide +kernel) ⟨Nat.le_of_ble_eq_true rfl, Nat.le_of_ble_eq_true rfl⟩) hK hE hB hw (by omega) c_90 rfl rfl rfl rfl hl.1 (Nat.le_of_ble_eq_true rfl) ⟨Nat.zero_le _, Nat.zero_le _⟩ dX3_remove_2 (fun r_13 f_12 H locs hp hw => ?_)
  obtain ⟨er, eu⟩ := hp
  rw [← er]
  rw [← eu] at hw
  refine lv_if_ne (tgt := 9) hx hb dX3_remove_5 (by decide) (fun _ => ?_) (fun h => absurd h (by decide))
  refine lv_iload_n hx hb dX3_remove_9 rfl (lv_at hl 1 rfl) ?_
  refine lv_istore_n (lv' := [(2, .int (nI i)), (0, .ref (ad 90)), (1, .int (nI i))]) hx hb dX3_remove_10 rfl hl (by decide) rfl (fun ls hl => ?_)
  have hw : xw D vwCl N ad B s.heap (va_up (va_up (va_up (vrow ca f (mrem M i i)) 96 (ai (ca 0) 200 (shl kn i i))) 97 (ai (ca 0) 200 (shl fn i i))) 98 (ai (ca 0) 200 (shl dn i i))) H locs := by
    have ez : f = va_up (va_up (va_up (vrow ca f (mrem M i i)) 96 (ai (ca 0) 200 (shl kn i i))) 97 (ai (ca 0) 200 (shl fn i i))) 98 (ai (ca 0) 200 (shl dn i i)) := by rw [mrem_0, shl_0, shl_0, shl_0, vrow_id ca f M F_M, ← b_96, up_same, ← b_97, up_same, ← b_98, up_same]
    rw [← ez]; exact hw
  exact P_11 (((rc - 1) + 1)) i _ _ _ (by omega) (by omega) (by omega) hw (lv_sub hl [1, 2, 0] rfl)
