abbrev rmX4_entry : Room := { frames := 0, cells := 0, slots := 0, locals := 0 }

set_option maxHeartbeats 4000000 in
set_option maxRecDepth 100000 in
theorem k_X4_entry (l : Launch) (D : va_G) (ca : Nat → ClassId) (N : Nat) (ad : Nat → Nat) (B tR tK : Nat) (f : Nat → va_E) (dd : xD N ad B) (x : Int32)    : xMi l yX4_entry wsX4_entry rmX4_entry [.int x] D ca N ad B tR tK f (fun r u => crcN x 8 = r ∧ f = u) := by
  refine x_open (cc := cX4_entry) (maxL := 4) (ret := (some .int)) (by decide) rfl (Nat.le_of_ble_eq_true rfl) ?_
  intro p e s m below meth c ls hx hb hml hown hts hr hlocks hnm hB hK hE hw hl
  have hown : s.vm.findClass RX4 = some m.cls := hown
  have hl : lv_has ls 4 [(0, .int x)] := hl
  have P_4 : ∀ (n_4 : Nat) (i : Nat) (H : Heap) (locs : List Loc) (ls : Array Slot), 8 + 1 ≤ i + n_4 → (i ≤ 8) → xw D vwCl N ad B s.heap (f) H locs → lv_has ls 4 [(0, .int x), (1, .int (crcN x i)), (2, .int (nI i))] → W p l e rmX4_entry s m ([.int x] : List Value).toArray below meth c H locs 0 0 (MQ below (xQi (fun r u => crcN x 8 = r ∧ f = u) D N ad B) ([.int x] : List Value).toArray s 0 0 (xA B)) (F0 m 4 ls []) := by
    intro n_4
    induction n_4 with
    | zero =>
      intro i H locs ls hm_4 hi hw hl
      exact absurd hm_4 (by omega)
    | succ n_4 ih_4 =>
      intro i H locs ls hm_4 hi hw hl
      refine lv_iload_n hx hb dX4_entry_4 rfl (lv_at hl 2 rfl) ?_
      refine lv_bipush (v := nI 8) hx hb dX4_entry_5 (by decide) ?_
      refine n_icge (tgt := 41) hx hb dX4_entry_7 (by decide) (by omega) (by omega) (fun c_7 => ?_) (fun c_7 => ?_)
      · refine lv_iload_n hx hb dX4_entry_41 rfl (lv_at hl 1 rfl) ?_
        exact x_iret hx hb hr hlocks hw (by have ei : i = 8 := (by omega); subst ei; exact ⟨rfl, rfl⟩) dX4_entry_42
      · refine lv_iload_n hx hb dX4_entry_10 rfl (lv_at hl 1 rfl) ?_
        refine lv_iconst (v := nI 1) hx hb dX4_entry_11 (by decide) ?_
        refine lv_iand hx hb dX4_entry_12 ?_
        refine lv_if_eq (tgt := 20) hx hb dX4_entry_13 (by decide) (fun c_13 => ?_) (fun c_13 => ?_)
        · refine lv_iconst (v := nI 0) hx hb dX4_entry_20 (by decide) ?_
          refine lv_istore_n (lv' := [(3, .int (nI 0)), (0, .int x), (1, .int (crcN x i)), (2, .int (nI i))]) hx hb dX4_entry_21 rfl hl (by decide) rfl (fun ls hl => ?_)
          refine lv_iload_n hx hb dX4_entry_22 rfl (lv_at hl 2 rfl) ?_
          refine lv_iconst (v := nI 1) hx hb dX4_entry_23 (by decide) ?_
          refine n_iushr hx hb dX4_entry_24 ?_
          refine lv_topi (fun x_1 ex_1 => ?_)
          refine lv_istore_n (lv' := [(1, .int x_1), (3, .int (nI 0)), (0, .int x), (2, .int (nI i))]) hx hb dX4_entry_25 rfl hl (by decide) rfl (fun ls hl => ?_)
          refine lv_iload_n hx hb dX4_entry_26 rfl (lv_at hl 1 rfl) ?_
          refine lv_if_eq (tgt := 35) hx hb dX4_entry_27 (by decide) (fun _ => ?_) (fun h => False.elim (h (by decide)))
          refine lv_iinc (v := nI (i + 1)) (lv' := [(2, .int (nI (i + 1))), (1, .int x_1), (3, .int (nI 0)), (0, .int x)]) hx hb dX4_entry_35 hl (k := 3) rfl (by rw [show Int32.ofInt 1 = nI 1 from rfl]; exact nI_add _ _) (by decide) rfl (fun ls hl => ?_)
          refine lv_goto (tgt := 4) hx hb dX4_entry_38 (by decide) ?_
          exact ih_4 (i + 1) _ _ _ (by omega) (by omega) hw (by have hl := lv_sub (l' := [(0, .int x), (1, .int x_1), (2, .int (nI (i + 1)))]) hl [3, 1, 0] rfl; simp only [ex_1] at hl; first | (rw [show crcN x (i + 1) = jushr (crcN x i) (nI 1) from if_pos c_13]; exact hl) | (rw [show crcN x (i + 1) = jushr (crcN x i) (nI 1) ^^^ (-306674912) from if_neg c_13]; exact hl))
        · refine lv_iconst (v := nI 1) hx hb dX4_entry_16 (by decide) ?_
          refine lv_goto (tgt := 21) hx hb dX4_entry_17 (by decide) ?_
          refine lv_istore_n (lv' := [(3, .int (nI 1)), (0, .int x), (1, .int (crcN x i)), (2, .int (nI i))]) hx hb dX4_entry_21 rfl hl (by decide) rfl (fun ls hl => ?_)
          refine lv_iload_n hx hb dX4_entry_22 rfl (lv_at hl 2 rfl) ?_
          refine lv_iconst (v := nI 1) hx hb dX4_entry_23 (by decide) ?_
          refine n_iushr hx hb dX4_entry_24 ?_
          refine lv_topi (fun x_2 ex_2 => ?_)
          refine lv_istore_n (lv' := [(1, .int x_2), (3, .int (nI 1)), (0, .int x), (2, .int (nI i))]) hx hb dX4_entry_25 rfl hl (by decide) rfl (fun ls hl => ?_)
          refine lv_iload_n hx hb dX4_entry_26 rfl (lv_at hl 1 rfl) ?_
          refine lv_if_eq (tgt := 35) hx hb dX4_entry_27 (by decide) (fun h => absurd h (by decide)) (fun _ => ?_)
          refine lv_iload_n hx hb dX4_entry_30 rfl (lv_at hl 0 rfl) ?_
          refine lv_ldc (v := (-306674912)) hx hb hown (hts (.constant RX4 26 (-306674912)) (by decide +kernel)) dX4_entry_31 ?_
          refine lv_ixor hx hb dX4_entry_33 ?_
          refine lv_topi (fun x_3 ex_3 => ?_)
          refine lv_istore_n (lv' := [(1, .int x_3), (3, .int (nI 1)), (0, .int x), (2, .int (nI i))]) hx hb dX4_entry_34 rfl hl (by decide) rfl (fun ls hl => ?_)
          refine lv_iinc (v := nI (i + 1)) (lv' := [(2, .int (nI (i + 1))), (1, .int x_3), (3, .int (nI 1)), (0, .int x)]) hx hb dX4_entry_35 hl (k := 3) rfl (by rw [show Int32.ofInt 1 = nI 1 from rfl]; exact nI_add _ _) (by decide) rfl (fun ls hl => ?_)
          refine lv_goto (tgt := 4) hx hb dX4_entry_38 (by decide) ?_
          exact ih_4 (i + 1) _ _ _ (by omega) (by omega) hw (by have hl := lv_sub (l' := [(0, .int x), (1, .int x_3), (2, .int (nI (i + 1)))]) hl [3, 1, 0] rfl; simp only [ex_3, ex_2] at hl; first | (rw [show crcN x (i + 1) = jushr (crcN x i) (nI 1) from if_pos c_13]; exact hl) | (rw [show crcN x (i + 1) = jushr (crcN x i) (nI 1) ^^^ (-306674912) from if_neg c_13]; exact hl))
  refine lv_iload_n hx hb dX4_entry_0 rfl (lv_at hl 0 rfl) ?_
  refine lv_istore_n (lv' := [(1, .int x), (0, .int x)]) hx hb dX4_entry_1 rfl hl (by decide) rfl (fun ls hl => ?_)
  refine lv_iconst (v := nI 0) hx hb dX4_entry_2 (by decide) ?_
  refine lv_istore_n (lv' := [(2, .int (nI 0)), (1, .int x), (0, .int x)]) hx hb dX4_entry_3 rfl hl (by decide) rfl (fun ls hl => ?_)
  exact P_4 9 0 _ _ _ (by omega) (by omega) hw (lv_sub hl [2, 1, 0] rfl)

abbrev rmX4_compute : Room := { frames := 1, cells := 0, slots := 0, locals := 21 }

set_option maxHeartbeats 4000000 in
set_option maxRecDepth 100000 in
theorem k_X4_compute (l : Launch) (D : va_G) (ca : Nat → ClassId) (N : Nat) (ad : Nat → Nat) (B tR tK : Nat) (f : Nat → va_E) (dd : xD N ad B) (q : Nat) (t : Nat) (tb : Nat → Int32) (o : Nat) (v : Nat) (sz : Nat) (g : Nat → Int32) (l_q : q < N) (c_q : f q = .inr (5, [.ref (ad t)])) (l_t : t < N) (c_t : f t = ai (ca 0) 256 tb) (l_o : o < N) (c_o : f o = .inr (3, [.ref (ad v), .int (nI sz)])) (l_v : v < N) (c_v : f v = ai (ca 0) 200 g)  (hn : sz ≤ 200) (hT : ∀ j, j < 256 → tb j = crcN (nI j) 8) : xMi l yX4_compute wsX4_compute rmX4_compute [.ref (ad q), .ref (ad o)] D ca N ad B tR tK f (fun r u => crc sz g = r ∧ f = u) := by
  refine x_open (cc := cX4_compute) (maxL := 4) (ret := (some .int)) (by decide) rfl (Nat.le_of_ble_eq_true rfl) ?_
  intro p e s m below meth c ls hx hb hml hown hts hr hlocks hnm hB hK hE hw hl
  have hown : s.vm.findClass RX4 = some m.cls := hown
  have hl : lv_has ls 4 [(0, .ref (ad q)), (1, .ref (ad o))] := hl
  have hin_5 : ∀ w ∈ u_ws RX4 TX4 1, w ∈ wsX4_compute := by decide +kernel
  have hf_9 := hts (.fieldLink RX4 9 "FixityRows$ShortDigest" "table" "[I") (by decide +kernel)
  have b_q := c_q
  have b_t := c_t
  have b_o := c_o
  have b_v := c_v
  have P_4 : ∀ (n_4 : Nat) (i : Nat) (H : Heap) (locs : List Loc) (ls : Array Slot), sz + 1 ≤ i + n_4 → (i ≤ sz) → xw D vwCl N ad B s.heap (f) H locs → lv_has ls 4 [(0, .ref (ad q)), (1, .ref (ad o)), (2, .int (crcR g i)), (3, .int (nI i))] → W p l e rmX4_compute s m ([.ref (ad q), .ref (ad o)] : List Value).toArray below meth c H locs 0 0 (MQ below (xQi (fun r u => crc sz g = r ∧ f = u) D N ad B) ([.ref (ad q), .ref (ad o)] : List Value).toArray s 0 0 (xA B)) (F0 m 4 ls []) := by
    intro n_4
    induction n_4 with
    | zero =>
      intro i H locs ls hm_4 hi hw hl
      exact absurd hm_4 (by omega)
    | succ n_4 ih_4 =>
      intro i H locs ls hm_4 hi hw hl
      have c_q := b_q
      have c_t := b_t
      have c_o := b_o
      have c_v := b_v
      refine lv_iload_n hx hb dX4_compute_4 rfl (lv_at hl 3 rfl) ?_
      refine lv_aload_n hx hb dX4_compute_5 rfl (lv_at hl 1 rfl) ?_
      refine x_Vi (q := o) (As := []) (rest := [.int (nI i)]) ⟨hx, hb, hml, hown, hts⟩ (k_X2_count l D ca N ad B tR tK f dd o v sz l_o c_o  ) (cwV 0 hts gX4_compute_X2_count rfl rfl rfl (by decide +kernel) ⟨Nat.le_of_ble_eq_true rfl, Nat.le_of_ble_eq_true rfl⟩) hK hE hB hw l_o c_o rfl rfl rfl rfl hl.1 (Nat.le_of_ble_eq_true rfl) ⟨Nat.zero_le _, Nat.zero_le _⟩ dX4_compute_6 (fun r_2 f_1 H locs hp hw => ?_)
      obtain ⟨er, eu⟩ := hp
      rw [← er]
      rw [← eu] at hw
      refine n_icge (tgt := 40) hx hb dX4_compute_9 (by decide) (by omega) (by omega) (fun c_9 => ?_) (fun c_9 => ?_)
      · refine lv_iload_n hx hb dX4_compute_40 rfl (lv_at hl 2 rfl) ?_
        refine lv_iconst (v := (-1)) hx hb dX4_compute_41 (by decide) ?_
        refine lv_ixor hx hb dX4_compute_42 ?_
        exact x_iret hx hb hr hlocks hw (by have ei : i = sz := (by omega); subst ei; exact ⟨rfl, rfl⟩) dX4_compute_43
      · refine lv_iload_n hx hb dX4_compute_12 rfl (lv_at hl 2 rfl) ?_
        refine lv_bipush (v := nI 8) hx hb dX4_compute_13 (by decide) ?_
        refine n_iushr hx hb dX4_compute_15 ?_
        refine lv_aload_n hx hb dX4_compute_16 rfl (lv_at hl 0 rfl) ?_
        refine x_get (ci := 5) (C := RX4) (T := TX4) (n := 1) (ref := RX4) hx hb hts hin_5 hown hK hw q l_q c_q rfl 0 (by decide) hf_9 (fun _ h => h) rfl dX4_compute_17 ?_
        refine lv_iload_n hx hb dX4_compute_20 rfl (lv_at hl 2 rfl) ?_
        refine lv_aload_n hx hb dX4_compute_21 rfl (lv_at hl 1 rfl) ?_
        refine lv_iload_n hx hb dX4_compute_22 rfl (lv_at hl 3 rfl) ?_
        refine x_Vi (q := o) (As := [.int (nI i)]) (rest := [.int (crcR g i), .ref (ad t), .int (jushr (crcR g i) (nI 8))]) ⟨hx, hb, hml, hown, hts⟩ (k_X2_value_in l D ca N ad B tR tK f dd o v sz i g l_o c_o l_v c_v  (by omega) (by omega)) (cwV 1 hts gX4_compute_X2_value rfl rfl rfl (by decide +kernel) ⟨Nat.le_of_ble_eq_true rfl, Nat.le_of_ble_eq_true rfl⟩) hK hE hB hw l_o c_o rfl rfl rfl rfl hl.1 (Nat.le_of_ble_eq_true rfl) ⟨Nat.zero_le _, Nat.zero_le _⟩ dX4_compute_23 (fun r_4 f_3 H locs hp hw => ?_)
        obtain ⟨er, eu⟩ := hp
        rw [← er]
        rw [← eu] at hw
        refine lv_ixor hx hb dX4_compute_26 ?_
        refine lv_sipush (v := nI 255) hx hb dX4_compute_27 (by decide) ?_
        refine lv_iand hx hb dX4_compute_30 ?_
        obtain ⟨jj, hjj, ejj⟩ := pk_andE (crcR g i ^^^ g i) (m := nI 255) 8 (by decide)
        refine x_iald (j := jj) hx hb hK hw t 0 l_t c_t rfl ejj hjj (by decide) dX4_compute_31 ?_
        rw [hT jj hjj, ← ejj]
        refine lv_ixor hx hb dX4_compute_32 ?_
        refine lv_topi (fun x_5 ex_5 => ?_)
        refine lv_istore_n (lv' := [(2, .int x_5), (0, .ref (ad q)), (1, .ref (ad o)), (3, .int (nI i))]) hx hb dX4_compute_33 rfl hl (by decide) rfl (fun ls hl => ?_)
        refine lv_iinc (v := nI (i + 1)) (lv' := [(3, .int (nI (i + 1))), (2, .int x_5), (0, .ref (ad q)), (1, .ref (ad o))]) hx hb dX4_compute_34 hl (k := 3) rfl (by rw [show Int32.ofInt 1 = nI 1 from rfl]; exact nI_add _ _) (by decide) rfl (fun ls hl => ?_)
        refine lv_goto (tgt := 4) hx hb dX4_compute_37 (by decide) ?_
        exact ih_4 (i + 1) _ _ _ (by omega) (by omega) hw (by have hl := lv_sub (l' := [(0, .ref (ad q)), (1, .ref (ad o)), (2, .int x_5), (3, .int (nI (i + 1)))]) hl [2, 3, 1, 0] rfl; simp only [ex_5] at hl; exact hl)
  refine lv_iconst (v := (-1)) hx hb dX4_compute_0 (by decide) ?_
  refine lv_istore_n (lv' := [(2, .int ((-1))), (0, .ref (ad q)), (1, .ref (ad o))]) hx hb dX4_compute_1 rfl hl (by decide) rfl (fun ls hl => ?_)
  refine lv_iconst (v := nI 0) hx hb dX4_compute_2 (by decide) ?_
  refine lv_istore_n (lv' := [(3, .int (nI 0)), (2, .int ((-1))), (0, .ref (ad q)), (1, .ref (ad o))]) hx hb dX4_compute_3 rfl hl (by decide) rfl (fun ls hl => ?_)
  exact P_4 ((sz + 1)) 0 _ _ _ (by omega) (by omega) hw (lv_sub hl [2, 3, 1, 0] rfl)

abbrev rmX0_plan : Room := { frames := 0, cells := 0, slots := 0, locals := 0 }

set_option maxHeartbeats 4000000 in
set_option maxRecDepth 100000 in
theorem k_X0_plan (l : Launch) (D : va_G) (ca : Nat → ClassId) (N : Nat) (ad : Nat → Nat) (B tR tK : Nat) (f : Nat → va_E) (dd : xD N ad B) (q : Nat) (oc : Nat) (lw : Nat) (sw : Int32) (al : Int32) (fd : Int32) (nd : Int32) (sp : Int32) (me : Int32) (dy : Int32) (sn : Int32) (l_q : q < N) (c_q : f q = .inr (1, [.ref (ad oc), .ref (ad lw), .int sw, .int al, .int fd, .int nd, .int sp, .int me]))   : xMv l yX0_plan wsX0_plan rmX0_plan [.ref (ad q), .int dy, .int sn] D ca N ad B tR tK f (fun u => u = va_up f q (.inr (1, [.ref (ad oc), .ref (ad lw), .int sw, .int al, .int fd, .int dy, .int sn, .int me]))) := by
  refine x_open (cc := cX0_plan) (maxL := 3) (ret := none) (by decide) rfl (Nat.le_of_ble_eq_true rfl) ?_
  intro p e s m below meth c ls hx hb hml hown hts hr hlocks hnm hB hK hE hw hl
  have hown : s.vm.findClass RX0 = some m.cls := hown
  have hl : lv_has ls 3 [(0, .ref (ad q)), (1, .int dy), (2, .int sn)] := hl
  have hin_1 : ∀ w ∈ u_ws RX0 TX0 8, w ∈ wsX0_plan := by decide +kernel
  have hf_26 := hts (.fieldLink RX0 26 "FixityRows$KeptFile" "nextDay" "I") (by decide +kernel)
  have hf_29 := hts (.fieldLink RX0 29 "FixityRows$KeptFile" "span" "I") (by decide +kernel)
  have b_q := c_q
  refine lv_aload_n hx hb dX0_plan_0 rfl (lv_at hl 0 rfl) ?_
  refine lv_iload_n hx hb dX0_plan_1 rfl (lv_at hl 1 rfl) ?_
  refine x_put (ci := 1) (C := RX0) (T := TX0) (n := 8) (ref := RX0) (fs' := [.ref (ad oc), .ref (ad lw), .int sw, .int al, .int fd, .int dy, .int sp, .int me]) hx hb hts hin_1 tyX0 tyX0_ok nmX0 hown hK dd hw q l_q c_q rfl 5 (by decide) hf_26 (fun _ h => h) rfl rfl rfl (Nat.le_of_ble_eq_true rfl) rfl dX0_plan_2 (fun H locs hw => ?_)
  obtain ⟨f_1, ef_1⟩ : ∃ z, z = va_up f q (.inr (1, [.ref (ad oc), .ref (ad lw), .int sw, .int al, .int fd, .int dy, .int sp, .int me])) := ⟨_, rfl⟩
  have hw : xw D vwCl N ad B s.heap f_1 H locs := by rw [ef_1]; exact hw
  have c_q : f_1 q = .inr (1, [.ref (ad oc), .ref (ad lw), .int sw, .int al, .int fd, .int dy, .int sp, .int me]) := va_up_of ef_1
  refine lv_aload_n hx hb dX0_plan_5 rfl (lv_at hl 0 rfl) ?_
  refine lv_iload_n hx hb dX0_plan_6 rfl (lv_at hl 2 rfl) ?_
  refine x_put (ci := 1) (C := RX0) (T := TX0) (n := 8) (ref := RX0) (fs' := [.ref (ad oc), .ref (ad lw), .int sw, .int al, .int fd, .int dy, .int sn, .int me]) hx hb hts hin_1 tyX0 tyX0_ok nmX0 hown hK dd hw q l_q c_q rfl 6 (by decide) hf_29 (fun _ h => h) rfl rfl rfl (Nat.le_of_ble_eq_true rfl) rfl dX0_plan_7 (fun H locs hw => ?_)
  obtain ⟨f_2, ef_2⟩ : ∃ z, z = va_up f_1 q (.inr (1, [.ref (ad oc), .ref (ad lw), .int sw, .int al, .int fd, .int dy, .int sn, .int me])) := ⟨_, rfl⟩
  have hw : xw D vwCl N ad B s.heap f_2 H locs := by rw [ef_2]; exact hw
  have c_q : f_2 q = .inr (1, [.ref (ad oc), .ref (ad lw), .int sw, .int al, .int fd, .int dy, .int sn, .int me]) := va_up_of ef_2
  exact x_vret hx hb hr hlocks hw (by simp only [ef_2, ef_1, up_aa]) dX0_plan_10

abbrev rmX0_isWaiting : Room := { frames := 0, cells := 0, slots := 0, locals := 0 }

set_option maxHeartbeats 4000000 in
set_option maxRecDepth 100000 in
theorem k_X0_isWaiting_yes (l : Launch) (D : va_G) (ca : Nat → ClassId) (N : Nat) (ad : Nat → Nat) (B tR tK : Nat) (f : Nat → va_E) (dd : xD N ad B) (q : Nat) (oc : Nat) (lw : Nat) (sw : Int32) (al : Int32) (fd : Int32) (nd : Int32) (sp : Int32) (me : Int32) (dy : Int32) (l_q : q < N) (c_q : f q = .inr (1, [.ref (ad oc), .ref (ad lw), .int sw, .int al, .int fd, .int nd, .int sp, .int me]))  (h1 : ¬ sp ≤ 0) (h2 : ¬ dy < nd) : xMi l yX0_isWaiting wsX0_isWaiting rmX0_isWaiting [.ref (ad q), .int dy] D ca N ad B tR tK f (fun r u => nI 1 = r ∧ f = u) := by
  refine x_open (cc := cX0_isWaiting) (maxL := 2) (ret := (some .boolean)) (by decide) rfl (Nat.le_of_ble_eq_true rfl) ?_
  intro p e s m below meth c ls hx hb hml hown hts hr hlocks hnm hB hK hE hw hl
  have hown : s.vm.findClass RX0 = some m.cls := hown
  have hl : lv_has ls 2 [(0, .ref (ad q)), (1, .int dy)] := hl
  have hin_1 : ∀ w ∈ u_ws RX0 TX0 8, w ∈ wsX0_isWaiting := by decide +kernel
  have hf_29 := hts (.fieldLink RX0 29 "FixityRows$KeptFile" "span" "I") (by decide +kernel)
  have hf_26 := hts (.fieldLink RX0 26 "FixityRows$KeptFile" "nextDay" "I") (by decide +kernel)
  have b_q := c_q
  refine lv_aload_n hx hb dX0_isWaiting_0 rfl (lv_at hl 0 rfl) ?_
  refine x_get (ci := 1) (C := RX0) (T := TX0) (n := 8) (ref := RX0) hx hb hts hin_1 hown hK hw q l_q c_q rfl 6 (by decide) hf_29 (fun _ h => h) rfl dX0_isWaiting_1 ?_
  refine lv_if_le (tgt := 19) hx hb dX0_isWaiting_4 (by decide) (fun c_4 => ?_) (fun c_4 => ?_)
  · exact absurd c_4 h1
  · refine lv_aload_n hx hb dX0_isWaiting_7 rfl (lv_at hl 0 rfl) ?_
    refine x_get (ci := 1) (C := RX0) (T := TX0) (n := 8) (ref := RX0) hx hb hts hin_1 hown hK hw q l_q c_q rfl 5 (by decide) hf_26 (fun _ h => h) rfl dX0_isWaiting_8 ?_
    refine lv_iload_n hx hb dX0_isWaiting_11 rfl (lv_at hl 1 rfl) ?_
    refine lv_icmp_gt (tgt := 19) hx hb dX0_isWaiting_12 (by decide) (fun c_12 => ?_) (fun c_12 => ?_)
    · exact absurd c_12 h2
    · refine lv_iconst (v := nI 1) hx hb dX0_isWaiting_15 (by decide) ?_
      refine lv_goto (tgt := 20) hx hb dX0_isWaiting_16 (by decide) ?_
      exact x_zret hx hb hr hlocks hw (by first | exact Or.inl rfl | exact Or.inr rfl) ⟨rfl, rfl⟩ dX0_isWaiting_20

set_option maxHeartbeats 4000000 in
set_option maxRecDepth 100000 in
theorem k_X0_isWaiting_no (l : Launch) (D : va_G) (ca : Nat → ClassId) (N : Nat) (ad : Nat → Nat) (B tR tK : Nat) (f : Nat → va_E) (dd : xD N ad B) (q : Nat) (oc : Nat) (lw : Nat) (sw : Int32) (al : Int32) (fd : Int32) (nd : Int32) (sp : Int32) (me : Int32) (dy : Int32) (l_q : q < N) (c_q : f q = .inr (1, [.ref (ad oc), .ref (ad lw), .int sw, .int al, .int fd, .int nd, .int sp, .int me]))  (h1 : sp ≤ 0 ∨ dy < nd) : xMi l yX0_isWaiting wsX0_isWaiting rmX0_isWaiting [.ref (ad q), .int dy] D ca N ad B tR tK f (fun r u => nI 0 = r ∧ f = u) := by
  refine x_open (cc := cX0_isWaiting) (maxL := 2) (ret := (some .boolean)) (by decide) rfl (Nat.le_of_ble_eq_true rfl) ?_
  intro p e s m below meth c ls hx hb hml hown hts hr hlocks hnm hB hK hE hw hl
  have hown : s.vm.findClass RX0 = some m.cls := hown
  have hl : lv_has ls 2 [(0, .ref (ad q)), (1, .int dy)] := hl
  have hin_1 : ∀ w ∈ u_ws RX0 TX0 8, w ∈ wsX0_isWaiting := by decide +kernel
  have hf_29 := hts (.fieldLink RX0 29 "FixityRows$KeptFile" "span" "I") (by decide +kernel)
  have hf_26 := hts (.fieldLink RX0 26 "FixityRows$KeptFile" "nextDay" "I") (by decide +kernel)
  have b_q := c_q
  refine lv_aload_n hx hb dX0_isWaiting_0 rfl (lv_at hl 0 rfl) ?_
  refine x_get (ci := 1) (C := RX0) (T := TX0) (n := 8) (ref := RX0) hx hb hts hin_1 hown hK hw q l_q c_q rfl 6 (by decide) hf_29 (fun _ h => h) rfl dX0_isWaiting_1 ?_
  refine lv_if_le (tgt := 19) hx hb dX0_isWaiting_4 (by decide) (fun c_4 => ?_) (fun c_4 => ?_)
  · refine lv_iconst (v := nI 0) hx hb dX0_isWaiting_19 (by decide) ?_
    exact x_zret hx hb hr hlocks hw (by first | exact Or.inl rfl | exact Or.inr rfl) ⟨rfl, rfl⟩ dX0_isWaiting_20
  · refine lv_aload_n hx hb dX0_isWaiting_7 rfl (lv_at hl 0 rfl) ?_
    refine x_get (ci := 1) (C := RX0) (T := TX0) (n := 8) (ref := RX0) hx hb hts hin_1 hown hK hw q l_q c_q rfl 5 (by decide) hf_26 (fun _ h => h) rfl dX0_isWaiting_8 ?_
    refine lv_iload_n hx hb dX0_isWaiting_11 rfl (lv_at hl 1 rfl) ?_
    refine lv_icmp_gt (tgt := 19) hx hb dX0_isWaiting_12 (by decide) (fun c_12 => ?_) (fun c_12 => ?_)
    · refine lv_iconst (v := nI 0) hx hb dX0_isWaiting_19 (by decide) ?_
      exact x_zret hx hb hr hlocks hw (by first | exact Or.inl rfl | exact Or.inr rfl) ⟨rfl, rfl⟩ dX0_isWaiting_20
    · exact absurd h1 (fun z => z.elim c_4 c_12)

abbrev rmX0_planBehind : Room := { frames := 1, cells := 0, slots := 0, locals := 21 }

set_option maxHeartbeats 4000000 in
set_option maxRecDepth 100000 in
theorem k_X0_planBehind (l : Launch) (D : va_G) (ca : Nat → ClassId) (N : Nat) (ad : Nat → Nat) (B tR tK : Nat) (f : Nat → va_E) (dd : xD N ad B) (q : Nat) (oc : Nat) (lw : Nat) (sw : Int32) (al : Int32) (fd : Int32) (nd : Int32) (sp : Int32) (me : Int32) (dy : Int32) (l_q : q < N) (c_q : f q = .inr (1, [.ref (ad oc), .ref (ad lw), .int sw, .int al, .int fd, .int nd, .int sp, .int me]))  (h1 : ¬ sp ≤ 0) (h2 : ¬ dy < nd) : xMv l yX0_planBehind wsX0_planBehind rmX0_planBehind [.ref (ad q), .int dy] D ca N ad B tR tK f (fun u => u = va_up f q (.inr (1, [.ref (ad oc), .ref (ad lw), .int sw, .int al, .int fd, .int (nd + ((dy - nd) / sp + nI 1) * sp), .int sp, .int me]))) := by
  refine x_open (cc := cX0_planBehind) (maxL := 2) (ret := none) (by decide) rfl (Nat.le_of_ble_eq_true rfl) ?_
  intro p e s m below meth c ls hx hb hml hown hts hr hlocks hnm hB hK hE hw hl
  have hown : s.vm.findClass RX0 = some m.cls := hown
  have hl : lv_has ls 2 [(0, .ref (ad q)), (1, .int dy)] := hl
  have hin_1 : ∀ w ∈ u_ws RX0 TX0 8, w ∈ wsX0_planBehind := by decide +kernel
  have hf_26 := hts (.fieldLink RX0 26 "FixityRows$KeptFile" "nextDay" "I") (by decide +kernel)
  have hf_29 := hts (.fieldLink RX0 29 "FixityRows$KeptFile" "span" "I") (by decide +kernel)
  have b_q := c_q
  refine lv_aload_n hx hb dX0_planBehind_0 rfl (lv_at hl 0 rfl) ?_
  refine lv_iload_n hx hb dX0_planBehind_1 rfl (lv_at hl 1 rfl) ?_
  refine x_Vi (q := q) (As := [.int dy]) (rest := []) ⟨hx, hb, hml, hown, hts⟩ (k_X0_isWaiting_yes l D ca N ad B tR tK f dd q oc lw sw al fd nd sp me dy l_q c_q  h1 h2) (cwV 1 hts gX0_planBehind_X0_isWaiting rfl rfl rfl (by decide +kernel) ⟨Nat.le_of_ble_eq_true rfl, Nat.le_of_ble_eq_true rfl⟩) hK hE hB hw l_q c_q rfl rfl rfl rfl hl.1 (Nat.le_of_ble_eq_true rfl) ⟨Nat.zero_le _, Nat.zero_le _⟩ dX0_planBehind_2 (fun r_2 f_1 H locs hp hw => ?_)
  obtain ⟨er, eu⟩ := hp
  rw [← er]
  rw [← eu] at hw
  refine lv_if_eq (tgt := 35) hx hb dX0_planBehind_5 (by decide) (fun h => absurd h (by decide)) (fun _ => ?_)
  refine lv_aload_n hx hb dX0_planBehind_8 rfl (lv_at hl 0 rfl) ?_
  refine lv_dup hx hb dX0_planBehind_9 rfl ?_
  refine x_get (ci := 1) (C := RX0) (T := TX0) (n := 8) (ref := RX0) hx hb hts hin_1 hown hK hw q l_q c_q rfl 5 (by decide) hf_26 (fun _ h => h) rfl dX0_planBehind_10 ?_
  refine lv_iload_n hx hb dX0_planBehind_13 rfl (lv_at hl 1 rfl) ?_
  refine lv_aload_n hx hb dX0_planBehind_14 rfl (lv_at hl 0 rfl) ?_
  refine x_get (ci := 1) (C := RX0) (T := TX0) (n := 8) (ref := RX0) hx hb hts hin_1 hown hK hw q l_q c_q rfl 5 (by decide) hf_26 (fun _ h => h) rfl dX0_planBehind_15 ?_
  refine lv_isub hx hb dX0_planBehind_18 ?_
  refine lv_aload_n hx hb dX0_planBehind_19 rfl (lv_at hl 0 rfl) ?_
  refine x_get (ci := 1) (C := RX0) (T := TX0) (n := 8) (ref := RX0) hx hb hts hin_1 hown hK hw q l_q c_q rfl 6 (by decide) hf_29 (fun _ h => h) rfl dX0_planBehind_20 ?_
  refine lv_idiv hx hb dX0_planBehind_23 (fun z => h1 (by rw [z]; exact Int32.le_refl 0)) ?_
  refine lv_iconst (v := nI 1) hx hb dX0_planBehind_24 (by decide) ?_
  refine lv_iadd hx hb dX0_planBehind_25 ?_
  refine lv_aload_n hx hb dX0_planBehind_26 rfl (lv_at hl 0 rfl) ?_
  refine x_get (ci := 1) (C := RX0) (T := TX0) (n := 8) (ref := RX0) hx hb hts hin_1 hown hK hw q l_q c_q rfl 6 (by decide) hf_29 (fun _ h => h) rfl dX0_planBehind_27 ?_
  refine lv_imul hx hb dX0_planBehind_30 ?_
  refine lv_iadd hx hb dX0_planBehind_31 ?_
  refine lv_topi (fun x_3 ex_3 => ?_)
  refine x_put (ci := 1) (C := RX0) (T := TX0) (n := 8) (ref := RX0) (fs' := [.ref (ad oc), .ref (ad lw), .int sw, .int al, .int fd, .int x_3, .int sp, .int me]) hx hb hts hin_1 tyX0 tyX0_ok nmX0 hown hK dd hw q l_q c_q rfl 5 (by decide) hf_26 (fun _ h => h) rfl rfl rfl (Nat.le_of_ble_eq_true rfl) rfl dX0_planBehind_32 (fun H locs hw => ?_)
  obtain ⟨f_4, ef_4⟩ : ∃ z, z = va_up f q (.inr (1, [.ref (ad oc), .ref (ad lw), .int sw, .int al, .int fd, .int x_3, .int sp, .int me])) := ⟨_, rfl⟩
  have hw : xw D vwCl N ad B s.heap f_4 H locs := by rw [ef_4]; exact hw
  have c_q : f_4 q = .inr (1, [.ref (ad oc), .ref (ad lw), .int sw, .int al, .int fd, .int x_3, .int sp, .int me]) := va_up_of ef_4
  exact x_vret hx hb hr hlocks hw (by simp only [ef_4, ex_3]) dX0_planBehind_35
