/-! ===== who waits ===== -/
def waits (g : Nat → Nat → Int32) (y : Int32) (i : Nat) : Prop := ¬ g 11 i ≤ 0 ∧ ¬ y < g 10 i
noncomputable def lwF (g : Nat → Nat → Int32) (y : Int32) : Nat → Option Nat
  | 0 => none
  | i + 1 => match lwF g y i with
    | none => (if g 11 i ≤ 0 ∨ y < g 10 i then none else some i)
    | some j => (if g 11 i ≤ 0 ∨ y < g 10 i ∨ g 10 j ≤ g 10 i then some j else some i)
def oI : Option Nat → Int32
  | none => (-1)
  | some j => nI j
def oD (g : Nat → Nat → Int32) (y : Int32) : Option Nat → Int32
  | none => y
  | some j => g 10 j
theorem lwF_lt (g : Nat → Nat → Int32) (y : Int32) : ∀ i j, lwF g y i = some j → j < i := by
  intro i
  induction i with
  | zero => intro j h; cases h
  | succ i ih =>
    intro j h
    unfold lwF at h
    cases e : lwF g y i with
    | none =>
      rw [e] at h
      by_cases h1 : g 11 i ≤ 0 ∨ y < g 10 i
      · simp only [if_pos h1] at h; cases h
      · simp only [if_neg h1] at h; cases h; omega
    | some k =>
      rw [e] at h
      have hk := ih k e
      by_cases h1 : g 11 i ≤ 0 ∨ y < g 10 i ∨ g 10 k ≤ g 10 i
      · simp only [if_pos h1] at h; cases h; omega
      · simp only [if_neg h1] at h; cases h; omega
theorem lwF_waits (g : Nat → Nat → Int32) (y : Int32) : ∀ i j, lwF g y i = some j → waits g y j := by
  intro i
  induction i with
  | zero => intro j h; cases h
  | succ i ih =>
    intro j h
    unfold lwF at h
    cases e : lwF g y i with
    | none =>
      rw [e] at h
      by_cases h1 : g 11 i ≤ 0 ∨ y < g 10 i
      · simp only [if_pos h1] at h; cases h
      · simp only [if_neg h1] at h; cases h
        exact ⟨fun q => h1 (Or.inl q), fun q => h1 (Or.inr q)⟩
    | some k =>
      rw [e] at h
      by_cases h1 : g 11 i ≤ 0 ∨ y < g 10 i ∨ g 10 k ≤ g 10 i
      · simp only [if_pos h1] at h; cases h; exact ih _ e
      · simp only [if_neg h1] at h; cases h
        exact ⟨fun q => h1 (Or.inl q), fun q => h1 (Or.inr (Or.inl q))⟩
theorem lwF_no {g : Nat → Nat → Int32} {y : Int32} {i : Nat} (h : g 11 i ≤ 0 ∨ y < g 10 i) : lwF g y (i + 1) = lwF g y i := by
  show (match lwF g y i with | none => _ | some j => _) = _
  cases e : lwF g y i with
  | none => exact if_pos h
  | some j => exact if_pos (h.elim Or.inl (fun q => Or.inr (Or.inl q)))
theorem oI_none {o : Option Nat} (h : oI o = -1) (hb : ∀ j, o = some j → j < 2 ^ 31) : o = none := by
  cases o with
  | none => rfl
  | some j =>
    exfalso
    have h1 := nI_pos (hb j rfl)
    have h2 : nI j = -1 := h
    rw [h2] at h1
    exact h1 (by decide)
theorem lwF_first {g : Nat → Nat → Int32} {y : Int32} {i : Nat} (hi : i ≤ 20) (h : ¬ (g 11 i ≤ 0 ∨ y < g 10 i)) (e : oI (lwF g y i) = -1) : lwF g y (i + 1) = some i := by
  have e1 := oI_none e (fun j hj => by have := lwF_lt g y i j hj; omega)
  show (match lwF g y i with | none => _ | some j => _) = _
  rw [e1]
  exact if_neg h
theorem lwF_less {g : Nat → Nat → Int32} {y : Int32} {i : Nat} (h : ¬ (g 11 i ≤ 0 ∨ y < g 10 i)) (e : ¬ oI (lwF g y i) = -1) (hd : ¬ oD g y (lwF g y i) ≤ g 10 i) : lwF g y (i + 1) = some i := by
  show (match lwF g y i with | none => _ | some j => _) = _
  cases e1 : lwF g y i with
  | none => rw [e1] at e; exact absurd rfl e
  | some j =>
    rw [e1] at hd
    exact if_neg (fun z => z.elim (fun q => h (Or.inl q)) (fun z => z.elim (fun q => h (Or.inr q)) hd))
theorem lwF_keep {g : Nat → Nat → Int32} {y : Int32} {i : Nat} (e : ¬ oI (lwF g y i) = -1) (hd : oD g y (lwF g y i) ≤ g 10 i) : lwF g y (i + 1) = lwF g y i := by
  show (match lwF g y i with | none => _ | some j => _) = _
  cases e1 : lwF g y i with
  | none => rw [e1] at e; exact absurd rfl e
  | some j =>
    rw [e1] at hd
    exact if_pos (Or.inr (Or.inr hd))
noncomputable def cwF (g : Nat → Nat → Int32) (y : Int32) : Nat → Nat
  | 0 => 0
  | i + 1 => (if g 11 i ≤ 0 ∨ y < g 10 i then cwF g y i else cwF g y i + 1)
theorem cwF_le (g : Nat → Nat → Int32) (y : Int32) : ∀ i, cwF g y i ≤ i := by
  intro i
  induction i with
  | zero => exact Nat.le_refl 0
  | succ i ih =>
    unfold cwF
    by_cases h : g 11 i ≤ 0 ∨ y < g 10 i
    · rw [if_pos h]; omega
    · rw [if_neg h]; omega

abbrev rmX5_longestWaiting : Room := { frames := 1, cells := 0, slots := 0, locals := 21 }

set_option maxHeartbeats 4000000 in
set_option maxRecDepth 100000 in
theorem k_X5_longestWaiting (l : Launch) (D : va_G) (ca : Nat → ClassId) (N : Nat) (ad : Nat → Nat) (B tR tK : Nat) (f : Nat → va_E) (dd : xD N ad B) (hN : 302 ≤ N) (n : Nat → Nat) (g : Nat → Nat → Int32) (z : Nat → Nat → Int32) (zn : Nat) (tb : Nat → Int32) (hR : RepX ca ad n g z zn tb f) (y : Int32) (h2 : n 2 ≤ 20) : xMi l yX5_longestWaiting wsX5_longestWaiting rmX5_longestWaiting [.ref (ad 0), .int y] D ca N ad B tR tK f (fun r u => oI (lwF g y (n 2)) = r ∧ f = u) := by
  refine x_open (cc := cX5_longestWaiting) (maxL := 6) (ret := (some .int)) (by decide) rfl (Nat.le_of_ble_eq_true rfl) ?_
  intro p e s m below meth c ls hx hb hml hown hts hr hlocks hnm hB hK hE hw hl
  have hown : s.vm.findClass RX5 = some m.cls := hown
  have hl : lv_has ls 6 [(0, .ref (ad 0)), (1, .int y)] := hl
  obtain ⟨c_0, c_1, c_2, c_3, c_4, c_5, c_6, c_7, c_8, c_9, c_90, c_91, c_92, c_93, c_94, c_95, c_96, c_97, c_98, c_99, c_300, c_301, F_kf, F_oc, F_va, F_lw, F_M, hzn, hT⟩ := hR
  have hin_6 : ∀ w ∈ u_ws RX5 TX5 13, w ∈ wsX5_longestWaiting := by decide +kernel
  have hf_100 := hts (.fieldLink RX5 100 "FixityRows" "fileCount" "I") (by decide +kernel)
  have hf_49 := hts (.fieldLink RX5 49 "FixityRows" "files" "[LFixityRows$KeptFile;") (by decide +kernel)
  have hin_1 : ∀ w ∈ u_ws RX0 TX0 8, w ∈ wsX5_longestWaiting := by decide +kernel
  have b_0 := c_0
  have b_1 := c_1
  have b_2 := c_2
  have b_3 := c_3
  have b_4 := c_4
  have b_5 := c_5
  have b_6 := c_6
  have b_7 := c_7
  have b_8 := c_8
  have b_9 := c_9
  have b_90 := c_90
  have b_91 := c_91
  have b_92 := c_92
  have b_93 := c_93
  have b_94 := c_94
  have b_95 := c_95
  have b_96 := c_96
  have b_97 := c_97
  have b_98 := c_98
  have b_99 := c_99
  have b_300 := c_300
  have b_301 := c_301
  have P_7 : ∀ (n_7 : Nat) (i : Nat) (H : Heap) (locs : List Loc) (ls : Array Slot), n 2 + 1 ≤ i + n_7 → (i ≤ n 2) → xw D vwCl N ad B s.heap (f) H locs → lv_has ls 6 [(0, .ref (ad 0)), (1, .int y), (2, .int (oI (lwF g y i))), (3, .int (oD g y (lwF g y i))), (4, .int (nI i))] → W p l e rmX5_longestWaiting s m ([.ref (ad 0), .int y] : List Value).toArray below meth c H locs 0 0 (MQ below (xQi (fun r u => oI (lwF g y (n 2)) = r ∧ f = u) D N ad B) ([.ref (ad 0), .int y] : List Value).toArray s 0 0 (xA B)) (F0 m 7 ls []) := by
    intro n_7
    induction n_7 with
    | zero =>
      intro i H locs ls hm_7 hi hw hl
      exact absurd hm_7 (by omega)
    | succ n_7 ih_7 =>
      intro i H locs ls hm_7 hi hw hl
      have c_0 := b_0
      have c_1 := b_1
      have c_2 := b_2
      have c_3 := b_3
      have c_4 := b_4
      have c_5 := b_5
      have c_6 := b_6
      have c_7 := b_7
      have c_8 := b_8
      have c_9 := b_9
      have c_90 := b_90
      have c_91 := b_91
      have c_92 := b_92
      have c_93 := b_93
      have c_94 := b_94
      have c_95 := b_95
      have c_96 := b_96
      have c_97 := b_97
      have c_98 := b_98
      have c_99 := b_99
      have c_300 := b_300
      have c_301 := b_301
      refine lv_iload hx hb dX5_longestWaiting_7 (lv_at hl 4 rfl) ?_
      refine lv_aload_n hx hb dX5_longestWaiting_9 rfl (lv_at hl 0 rfl) ?_
      refine x_get (ci := 6) (C := RX5) (T := TX5) (n := 13) (ref := RX5) hx hb hts hin_6 hown hK hw 0 (by omega) c_0 rfl 7 (by decide) hf_100 (fun _ h => h) rfl dX5_longestWaiting_10 ?_
      refine n_icge (tgt := 63) hx hb dX5_longestWaiting_13 (by decide) (by omega) (by omega) (fun hc_13 => ?_) (fun hc_13 => ?_)
      · refine lv_iload_n hx hb dX5_longestWaiting_63 rfl (lv_at hl 2 rfl) ?_
        exact x_iret hx hb hr hlocks hw ⟨(by have ei : i = n 2 := (by omega); rw [ei]), rfl⟩ dX5_longestWaiting_64
      · refine lv_aload_n hx hb dX5_longestWaiting_16 rfl (lv_at hl 0 rfl) ?_
        refine x_get (ci := 6) (C := RX5) (T := TX5) (n := 13) (ref := RX5) hx hb hts hin_6 hown hK hw 0 (by omega) c_0 rfl 6 (by decide) hf_49 (fun _ h => h) rfl dX5_longestWaiting_17 ?_
        refine lv_iload hx hb dX5_longestWaiting_20 (lv_at hl 4 rfl) ?_
        refine x_aald (j := i) (a := ad (10 + 4 * i)) hx hb hK hw 9 3 (by omega) c_9 rfl rfl (by omega) (by decide) rfl dX5_longestWaiting_22 ?_
        refine lv_astore (lv' := [(5, .ref (ad (10 + 4 * i))), (0, .ref (ad 0)), (1, .int y), (2, .int (oI (lwF g y i))), (3, .int (oD g y (lwF g y i))), (4, .int (nI i))]) hx hb dX5_longestWaiting_23 hl (by decide) rfl (fun ls hl => ?_)
        rcases Classical.em (g 11 i ≤ 0 ∨ y < g 10 i) with hwt | hwt
        · refine lv_aload hx hb dX5_longestWaiting_25 (lv_at hl 0 rfl) ?_
          refine lv_iload_n hx hb dX5_longestWaiting_27 rfl (lv_at hl 2 rfl) ?_
          have c_10_4_i : f (10 + 4 * i) = .inr (1, [.ref (ad (11 + 4 * i)), .ref (ad (13 + 4 * i)), .int (g 7 i), .int (g 8 i), .int (g 9 i), .int (g 10 i), .int (g 11 i), .int (g 12 i)]) := (F_kf i (by omega))
          refine x_Vi (q := 10 + 4 * i) (As := [.int y]) (rest := []) ⟨hx, hb, hml, hown, hts⟩ (k_X0_isWaiting_no l D ca N ad B tR tK f dd (10 + 4 * i) (11 + 4 * i) (13 + 4 * i) (g 7 i) (g 8 i) (g 9 i) (g 10 i) (g 11 i) (g 12 i) y (by omega) c_10_4_i  hwt) (cwV 1 hts gX5_longestWaiting_X0_isWaiting rfl rfl rfl (by decide +kernel) ⟨Nat.le_of_ble_eq_true rfl, Nat.le_of_ble_eq_true rfl⟩) hK hE hB hw (by omega) c_10_4_i rfl rfl rfl rfl hl.1 (Nat.le_of_ble_eq_true rfl) ⟨Nat.zero_le _, Nat.zero_le _⟩ dX5_longestWaiting_28 (fun r_2 f_1 H locs hp hw => ?_)
          obtain ⟨er, eu⟩ := hp
          rw [← er]
          rw [← eu] at hw
          refine lv_if_eq (tgt := 57) hx hb dX5_longestWaiting_31 (by decide) (fun _ => ?_) (fun h => False.elim (h (by decide)))
          refine lv_iinc (v := nI (i + 1)) (lv' := [(4, .int (nI (i + 1))), (5, .ref (ad (10 + 4 * i))), (0, .ref (ad 0)), (1, .int y), (2, .int (oI (lwF g y i))), (3, .int (oD g y (lwF g y i)))]) hx hb dX5_longestWaiting_57 hl (k := 5) rfl (by rw [show Int32.ofInt 1 = nI 1 from rfl]; exact nI_add _ _) (by decide) rfl (fun ls hl => ?_)
          refine lv_goto (tgt := 7) hx hb dX5_longestWaiting_60 (by decide) ?_
          exact ih_7 (i + 1) _ _ _ (by omega) (by omega) hw (by have hl := lv_sub (l' := [(0, .ref (ad 0)), (1, .int y), (2, .int (oI (lwF g y i))), (3, .int (oD g y (lwF g y i))), (4, .int (nI (i + 1)))]) hl [2, 3, 4, 5, 0] rfl; (try simp only [and_self] at hl); first | (rw [lwF_no hwt]; exact hl) | (rw [lwF_first (by omega) hwt hc_36]; exact hl) | (rw [lwF_less hwt hc_36 hc_45]; exact hl) | (rw [lwF_keep hc_36 hc_45]; exact hl))
        · refine lv_aload hx hb dX5_longestWaiting_25 (lv_at hl 0 rfl) ?_
          refine lv_iload_n hx hb dX5_longestWaiting_27 rfl (lv_at hl 2 rfl) ?_
          have c_10_4_i : f (10 + 4 * i) = .inr (1, [.ref (ad (11 + 4 * i)), .ref (ad (13 + 4 * i)), .int (g 7 i), .int (g 8 i), .int (g 9 i), .int (g 10 i), .int (g 11 i), .int (g 12 i)]) := (F_kf i (by omega))
          refine x_Vi (q := 10 + 4 * i) (As := [.int y]) (rest := []) ⟨hx, hb, hml, hown, hts⟩ (k_X0_isWaiting_yes l D ca N ad B tR tK f dd (10 + 4 * i) (11 + 4 * i) (13 + 4 * i) (g 7 i) (g 8 i) (g 9 i) (g 10 i) (g 11 i) (g 12 i) y (by omega) c_10_4_i  (fun q => hwt (Or.inl q)) (fun q => hwt (Or.inr q))) (cwV 1 hts gX5_longestWaiting_X0_isWaiting rfl rfl rfl (by decide +kernel) ⟨Nat.le_of_ble_eq_true rfl, Nat.le_of_ble_eq_true rfl⟩) hK hE hB hw (by omega) c_10_4_i rfl rfl rfl rfl hl.1 (Nat.le_of_ble_eq_true rfl) ⟨Nat.zero_le _, Nat.zero_le _⟩ dX5_longestWaiting_28 (fun r_4 f_3 H locs hp hw => ?_)
          obtain ⟨er, eu⟩ := hp
          rw [← er]
          rw [← eu] at hw
          refine lv_if_eq (tgt := 57) hx hb dX5_longestWaiting_31 (by decide) (fun h => absurd h (by decide)) (fun _ => ?_)
          refine lv_iload_n hx hb dX5_longestWaiting_34 rfl (lv_at hl 3 rfl) ?_
          refine lv_iconst (v := (-1)) hx hb dX5_longestWaiting_35 (by decide) ?_
          refine lv_icmp_eq (tgt := 48) hx hb dX5_longestWaiting_36 (by decide) (fun hc_36 => ?_) (fun hc_36 => ?_)
          · refine lv_iload hx hb dX5_longestWaiting_48 (lv_at hl 5 rfl) ?_
            refine lv_istore_n (lv' := [(2, .int (nI i)), (5, .ref (ad (10 + 4 * i))), (0, .ref (ad 0)), (1, .int y), (3, .int (oD g y (lwF g y i))), (4, .int (nI i))]) hx hb dX5_longestWaiting_50 rfl hl (by decide) rfl (fun ls hl => ?_)
            refine lv_aload hx hb dX5_longestWaiting_51 (lv_at hl 1 rfl) ?_
            refine x_getN (ci := 1) (C := RX0) (T := TX0) (n := 8) (ref := RX0) hx hb hts hin_1 hown hK hw (10 + 4 * i) (by omega) c_10_4_i rfl 5 (by decide) (hE.1 (176, "nextDay", "I") (by decide)) (fun _ h => h) rfl dX5_longestWaiting_53 ?_
            refine lv_topi (fun x_5 ex_5 => ?_)
            refine lv_istore_n (lv' := [(3, .int x_5), (2, .int (nI i)), (5, .ref (ad (10 + 4 * i))), (0, .ref (ad 0)), (1, .int y), (4, .int (nI i))]) hx hb dX5_longestWaiting_56 rfl hl (by decide) rfl (fun ls hl => ?_)
            refine lv_iinc (v := nI (i + 1)) (lv' := [(4, .int (nI (i + 1))), (3, .int x_5), (2, .int (nI i)), (5, .ref (ad (10 + 4 * i))), (0, .ref (ad 0)), (1, .int y)]) hx hb dX5_longestWaiting_57 hl (k := 5) rfl (by rw [show Int32.ofInt 1 = nI 1 from rfl]; exact nI_add _ _) (by decide) rfl (fun ls hl => ?_)
            refine lv_goto (tgt := 7) hx hb dX5_longestWaiting_60 (by decide) ?_
            exact ih_7 (i + 1) _ _ _ (by omega) (by omega) hw (by have hl := lv_sub (l' := [(0, .ref (ad 0)), (1, .int y), (2, .int (nI i)), (3, .int x_5), (4, .int (nI (i + 1)))]) hl [4, 5, 2, 1, 0] rfl; (try simp only [ex_5, and_self] at hl); first | (rw [lwF_no hwt]; exact hl) | (rw [lwF_first (by omega) hwt hc_36]; exact hl) | (rw [lwF_less hwt hc_36 hc_45]; exact hl) | (rw [lwF_keep hc_36 hc_45]; exact hl))
          · refine lv_aload hx hb dX5_longestWaiting_39 (lv_at hl 0 rfl) ?_
            refine x_getN (ci := 1) (C := RX0) (T := TX0) (n := 8) (ref := RX0) hx hb hts hin_1 hown hK hw (10 + 4 * i) (by omega) c_10_4_i rfl 5 (by decide) (hE.1 (176, "nextDay", "I") (by decide)) (fun _ h => h) rfl dX5_longestWaiting_41 ?_
            refine lv_iload_n hx hb dX5_longestWaiting_44 rfl (lv_at hl 4 rfl) ?_
            refine lv_icmp_ge (tgt := 57) hx hb dX5_longestWaiting_45 (by decide) (fun hc_45 => ?_) (fun hc_45 => ?_)
            · refine lv_iinc (v := nI (i + 1)) (lv' := [(4, .int (nI (i + 1))), (5, .ref (ad (10 + 4 * i))), (0, .ref (ad 0)), (1, .int y), (2, .int (oI (lwF g y i))), (3, .int (oD g y (lwF g y i)))]) hx hb dX5_longestWaiting_57 hl (k := 5) rfl (by rw [show Int32.ofInt 1 = nI 1 from rfl]; exact nI_add _ _) (by decide) rfl (fun ls hl => ?_)
              refine lv_goto (tgt := 7) hx hb dX5_longestWaiting_60 (by decide) ?_
              exact ih_7 (i + 1) _ _ _ (by omega) (by omega) hw (by have hl := lv_sub (l' := [(0, .ref (ad 0)), (1, .int y), (2, .int (oI (lwF g y i))), (3, .int (oD g y (lwF g y i))), (4, .int (nI (i + 1)))]) hl [2, 3, 4, 5, 0] rfl; (try simp only [and_self] at hl); first | (rw [lwF_no hwt]; exact hl) | (rw [lwF_first (by omega) hwt hc_36]; exact hl) | (rw [lwF_less hwt hc_36 hc_45]; exact hl) | (rw [lwF_keep hc_36 hc_45]; exact hl))
            · refine lv_iload hx hb dX5_longestWaiting_48 (lv_at hl 5 rfl) ?_
              refine lv_istore_n (lv' := [(2, .int (nI i)), (5, .ref (ad (10 + 4 * i))), (0, .ref (ad 0)), (1, .int y), (3, .int (oD g y (lwF g y i))), (4, .int (nI i))]) hx hb dX5_longestWaiting_50 rfl hl (by decide) rfl (fun ls hl => ?_)
              refine lv_aload hx hb dX5_longestWaiting_51 (lv_at hl 1 rfl) ?_
              refine x_getN (ci := 1) (C := RX0) (T := TX0) (n := 8) (ref := RX0) hx hb hts hin_1 hown hK hw (10 + 4 * i) (by omega) c_10_4_i rfl 5 (by decide) (hE.1 (176, "nextDay", "I") (by decide)) (fun _ h => h) rfl dX5_longestWaiting_53 ?_
              refine lv_topi (fun x_6 ex_6 => ?_)
              refine lv_istore_n (lv' := [(3, .int x_6), (2, .int (nI i)), (5, .ref (ad (10 + 4 * i))), (0, .ref (ad 0)), (1, .int y), (4, .int (nI i))]) hx hb dX5_longestWaiting_56 rfl hl (by decide) rfl (fun ls hl => ?_)
              refine lv_iinc (v := nI (i + 1)) (lv' := [(4, .int (nI (i + 1))), (3, .int x_6), (2, .int (nI i)), (5, .ref (ad (10 + 4 * i))), (0, .ref (ad 0)), (1, .int y)]) hx hb dX5_longestWaiting_57 hl (k := 5) rfl (by rw [show Int32.ofInt 1 = nI 1 from rfl]; exact nI_add _ _) (by decide) rfl (fun ls hl => ?_)
              refine lv_goto (tgt := 7) hx hb dX5_longestWaiting_60 (by decide) ?_
              exact ih_7 (i + 1) _ _ _ (by omega) (by omega) hw (by have hl := lv_sub (l' := [(0, .ref (ad 0)), (1, .int y), (2, .int (nI i)), (3, .int x_6), (4, .int (nI (i + 1)))]) hl [4, 5, 2, 1, 0] rfl; (try simp only [ex_6, and_self] at hl); first | (rw [lwF_no hwt]; exact hl) | (rw [lwF_first (by omega) hwt hc_36]; exact hl) | (rw [lwF_less hwt hc_36 hc_45]; exact hl) | (rw [lwF_keep hc_36 hc_45]; exact hl))
  refine lv_iconst (v := (-1)) hx hb dX5_longestWaiting_0 (by decide) ?_
  refine lv_istore_n (lv' := [(2, .int ((-1))), (0, .ref (ad 0)), (1, .int y)]) hx hb dX5_longestWaiting_1 rfl hl (by decide) rfl (fun ls hl => ?_)
  refine lv_iload_n hx hb dX5_longestWaiting_2 rfl (lv_at hl 2 rfl) ?_
  refine lv_istore_n (lv' := [(3, .int y), (2, .int ((-1))), (0, .ref (ad 0)), (1, .int y)]) hx hb dX5_longestWaiting_3 rfl hl (by decide) rfl (fun ls hl => ?_)
  refine lv_iconst (v := nI 0) hx hb dX5_longestWaiting_4 (by decide) ?_
  refine lv_istore (lv' := [(4, .int (nI 0)), (3, .int y), (2, .int ((-1))), (0, .ref (ad 0)), (1, .int y)]) hx hb dX5_longestWaiting_5 hl (by decide) rfl (fun ls hl => ?_)
  exact P_7 ((n 2 + 1)) 0 _ _ _ (by omega) (by omega) hw (lv_sub hl [3, 4, 2, 1, 0] rfl)

abbrev rmX5_countWaiting : Room := { frames := 1, cells := 0, slots := 0, locals := 21 }

set_option maxHeartbeats 4000000 in
set_option maxRecDepth 100000 in
theorem k_X5_countWaiting (l : Launch) (D : va_G) (ca : Nat → ClassId) (N : Nat) (ad : Nat → Nat) (B tR tK : Nat) (f : Nat → va_E) (dd : xD N ad B) (hN : 302 ≤ N) (n : Nat → Nat) (g : Nat → Nat → Int32) (z : Nat → Nat → Int32) (zn : Nat) (tb : Nat → Int32) (hR : RepX ca ad n g z zn tb f) (y : Int32) (h2 : n 2 ≤ 20) : xMi l yX5_countWaiting wsX5_countWaiting rmX5_countWaiting [.ref (ad 0), .int y] D ca N ad B tR tK f (fun r u => nI (cwF g y (n 2)) = r ∧ f = u) := by
  refine x_open (cc := cX5_countWaiting) (maxL := 4) (ret := (some .int)) (by decide) rfl (Nat.le_of_ble_eq_true rfl) ?_
  intro p e s m below meth c ls hx hb hml hown hts hr hlocks hnm hB hK hE hw hl
  have hown : s.vm.findClass RX5 = some m.cls := hown
  have hl : lv_has ls 4 [(0, .ref (ad 0)), (1, .int y)] := hl
  obtain ⟨c_0, c_1, c_2, c_3, c_4, c_5, c_6, c_7, c_8, c_9, c_90, c_91, c_92, c_93, c_94, c_95, c_96, c_97, c_98, c_99, c_300, c_301, F_kf, F_oc, F_va, F_lw, F_M, hzn, hT⟩ := hR
  have hin_6 : ∀ w ∈ u_ws RX5 TX5 13, w ∈ wsX5_countWaiting := by decide +kernel
  have hf_100 := hts (.fieldLink RX5 100 "FixityRows" "fileCount" "I") (by decide +kernel)
  have hf_49 := hts (.fieldLink RX5 49 "FixityRows" "files" "[LFixityRows$KeptFile;") (by decide +kernel)
  have b_0 := c_0
  have b_1 := c_1
  have b_2 := c_2
  have b_3 := c_3
  have b_4 := c_4
  have b_5 := c_5
  have b_6 := c_6
  have b_7 := c_7
  have b_8 := c_8
  have b_9 := c_9
  have b_90 := c_90
  have b_91 := c_91
  have b_92 := c_92
  have b_93 := c_93
  have b_94 := c_94
  have b_95 := c_95
  have b_96 := c_96
  have b_97 := c_97
  have b_98 := c_98
  have b_99 := c_99
  have b_300 := c_300
  have b_301 := c_301
  have P_4 : ∀ (n_4 : Nat) (i : Nat) (H : Heap) (locs : List Loc) (ls : Array Slot), n 2 + 1 ≤ i + n_4 → (i ≤ n 2) → xw D vwCl N ad B s.heap (f) H locs → lv_has ls 4 [(0, .ref (ad 0)), (1, .int y), (2, .int (nI (cwF g y i))), (3, .int (nI i))] → W p l e rmX5_countWaiting s m ([.ref (ad 0), .int y] : List Value).toArray below meth c H locs 0 0 (MQ below (xQi (fun r u => nI (cwF g y (n 2)) = r ∧ f = u) D N ad B) ([.ref (ad 0), .int y] : List Value).toArray s 0 0 (xA B)) (F0 m 4 ls []) := by
    intro n_4
    induction n_4 with
    | zero =>
      intro i H locs ls hm_4 hi hw hl
      exact absurd hm_4 (by omega)
    | succ n_4 ih_4 =>
      intro i H locs ls hm_4 hi hw hl
      have c_0 := b_0
      have c_1 := b_1
      have c_2 := b_2
      have c_3 := b_3
      have c_4 := b_4
      have c_5 := b_5
      have c_6 := b_6
      have c_7 := b_7
      have c_8 := b_8
      have c_9 := b_9
      have c_90 := b_90
      have c_91 := b_91
      have c_92 := b_92
      have c_93 := b_93
      have c_94 := b_94
      have c_95 := b_95
      have c_96 := b_96
      have c_97 := b_97
      have c_98 := b_98
      have c_99 := b_99
      have c_300 := b_300
      have c_301 := b_301
      refine lv_iload_n hx hb dX5_countWaiting_4 rfl (lv_at hl 3 rfl) ?_
      refine lv_aload_n hx hb dX5_countWaiting_5 rfl (lv_at hl 0 rfl) ?_
      refine x_get (ci := 6) (C := RX5) (T := TX5) (n := 13) (ref := RX5) hx hb hts hin_6 hown hK hw 0 (by omega) c_0 rfl 7 (by decide) hf_100 (fun _ h => h) rfl dX5_countWaiting_6 ?_
      refine n_icge (tgt := 34) hx hb dX5_countWaiting_9 (by decide) (by omega) (by omega) (fun hc_9 => ?_) (fun hc_9 => ?_)
      · refine lv_iload_n hx hb dX5_countWaiting_34 rfl (lv_at hl 2 rfl) ?_
        exact x_iret hx hb hr hlocks hw ⟨(by have ei : i = n 2 := (by omega); rw [ei]), rfl⟩ dX5_countWaiting_35
      · rcases Classical.em (g 11 i ≤ 0 ∨ y < g 10 i) with hwt | hwt
        · refine lv_aload_n hx hb dX5_countWaiting_12 rfl (lv_at hl 0 rfl) ?_
          refine x_get (ci := 6) (C := RX5) (T := TX5) (n := 13) (ref := RX5) hx hb hts hin_6 hown hK hw 0 (by omega) c_0 rfl 6 (by decide) hf_49 (fun _ h => h) rfl dX5_countWaiting_13 ?_
          refine lv_iload_n hx hb dX5_countWaiting_16 rfl (lv_at hl 3 rfl) ?_
          refine x_aald (j := i) (a := ad (10 + 4 * i)) hx hb hK hw 9 3 (by omega) c_9 rfl rfl (by omega) (by decide) rfl dX5_countWaiting_17 ?_
          refine lv_iload_n hx hb dX5_countWaiting_18 rfl (lv_at hl 1 rfl) ?_
          have c_10_4_i : f (10 + 4 * i) = .inr (1, [.ref (ad (11 + 4 * i)), .ref (ad (13 + 4 * i)), .int (g 7 i), .int (g 8 i), .int (g 9 i), .int (g 10 i), .int (g 11 i), .int (g 12 i)]) := (F_kf i (by omega))
          refine x_Vi (q := 10 + 4 * i) (As := [.int y]) (rest := []) ⟨hx, hb, hml, hown, hts⟩ (k_X0_isWaiting_no l D ca N ad B tR tK f dd (10 + 4 * i) (11 + 4 * i) (13 + 4 * i) (g 7 i) (g 8 i) (g 9 i) (g 10 i) (g 11 i) (g 12 i) y (by omega) c_10_4_i  hwt) (cwV 1 hts gX5_countWaiting_X0_isWaiting rfl rfl rfl (by decide +kernel) ⟨Nat.le_of_ble_eq_true rfl, Nat.le_of_ble_eq_true rfl⟩) hK hE hB hw (by omega) c_10_4_i rfl rfl rfl rfl hl.1 (Nat.le_of_ble_eq_true rfl) ⟨Nat.zero_le _, Nat.zero_le _⟩ dX5_countWaiting_19 (fun r_2 f_1 H locs hp hw => ?_)
          obtain ⟨er, eu⟩ := hp
          rw [← er]
          rw [← eu] at hw
          refine lv_if_eq (tgt := 28) hx hb dX5_countWaiting_22 (by decide) (fun _ => ?_) (fun h => False.elim (h (by decide)))
          refine lv_iinc (v := nI (i + 1)) (lv' := [(3, .int (nI (i + 1))), (0, .ref (ad 0)), (1, .int y), (2, .int (nI (cwF g y i)))]) hx hb dX5_countWaiting_28 hl (k := 3) rfl (by rw [show Int32.ofInt 1 = nI 1 from rfl]; exact nI_add _ _) (by decide) rfl (fun ls hl => ?_)
          refine lv_goto (tgt := 4) hx hb dX5_countWaiting_31 (by decide) ?_
          exact ih_4 (i + 1) _ _ _ (by omega) (by omega) hw (by have hl := lv_sub (l' := [(0, .ref (ad 0)), (1, .int y), (2, .int (nI (cwF g y i))), (3, .int (nI (i + 1)))]) hl [1, 2, 3, 0] rfl; first | (rw [show cwF g y (i + 1) = cwF g y i from if_pos hwt]; exact hl) | (rw [show cwF g y (i + 1) = cwF g y i + 1 from if_neg hwt]; exact hl))
        · refine lv_aload_n hx hb dX5_countWaiting_12 rfl (lv_at hl 0 rfl) ?_
          refine x_get (ci := 6) (C := RX5) (T := TX5) (n := 13) (ref := RX5) hx hb hts hin_6 hown hK hw 0 (by omega) c_0 rfl 6 (by decide) hf_49 (fun _ h => h) rfl dX5_countWaiting_13 ?_
          refine lv_iload_n hx hb dX5_countWaiting_16 rfl (lv_at hl 3 rfl) ?_
          refine x_aald (j := i) (a := ad (10 + 4 * i)) hx hb hK hw 9 3 (by omega) c_9 rfl rfl (by omega) (by decide) rfl dX5_countWaiting_17 ?_
          refine lv_iload_n hx hb dX5_countWaiting_18 rfl (lv_at hl 1 rfl) ?_
          have c_10_4_i : f (10 + 4 * i) = .inr (1, [.ref (ad (11 + 4 * i)), .ref (ad (13 + 4 * i)), .int (g 7 i), .int (g 8 i), .int (g 9 i), .int (g 10 i), .int (g 11 i), .int (g 12 i)]) := (F_kf i (by omega))
          refine x_Vi (q := 10 + 4 * i) (As := [.int y]) (rest := []) ⟨hx, hb, hml, hown, hts⟩ (k_X0_isWaiting_yes l D ca N ad B tR tK f dd (10 + 4 * i) (11 + 4 * i) (13 + 4 * i) (g 7 i) (g 8 i) (g 9 i) (g 10 i) (g 11 i) (g 12 i) y (by omega) c_10_4_i  (fun q => hwt (Or.inl q)) (fun q => hwt (Or.inr q))) (cwV 1 hts gX5_countWaiting_X0_isWaiting rfl rfl rfl (by decide +kernel) ⟨Nat.le_of_ble_eq_true rfl, Nat.le_of_ble_eq_true rfl⟩) hK hE hB hw (by omega) c_10_4_i rfl rfl rfl rfl hl.1 (Nat.le_of_ble_eq_true rfl) ⟨Nat.zero_le _, Nat.zero_le _⟩ dX5_countWaiting_19 (fun r_4 f_3 H locs hp hw => ?_)
          obtain ⟨er, eu⟩ := hp
          rw [← er]
          rw [← eu] at hw
          refine lv_if_eq (tgt := 28) hx hb dX5_countWaiting_22 (by decide) (fun h => absurd h (by decide)) (fun _ => ?_)
          refine lv_iinc (v := nI ((cwF g y i) + 1)) (lv' := [(2, .int (nI ((cwF g y i) + 1))), (0, .ref (ad 0)), (1, .int y), (3, .int (nI i))]) hx hb dX5_countWaiting_25 hl (k := 2) rfl (by rw [show Int32.ofInt 1 = nI 1 from rfl]; exact nI_add _ _) (by decide) rfl (fun ls hl => ?_)
          refine lv_iinc (v := nI (i + 1)) (lv' := [(3, .int (nI (i + 1))), (2, .int (nI ((cwF g y i) + 1))), (0, .ref (ad 0)), (1, .int y)]) hx hb dX5_countWaiting_28 hl (k := 3) rfl (by rw [show Int32.ofInt 1 = nI 1 from rfl]; exact nI_add _ _) (by decide) rfl (fun ls hl => ?_)
          refine lv_goto (tgt := 4) hx hb dX5_countWaiting_31 (by decide) ?_
          exact ih_4 (i + 1) _ _ _ (by omega) (by omega) hw (by have hl := lv_sub (l' := [(0, .ref (ad 0)), (1, .int y), (2, .int (nI ((cwF g y i) + 1))), (3, .int (nI (i + 1)))]) hl [2, 3, 1, 0] rfl; first | (rw [show cwF g y (i + 1) = cwF g y i from if_pos hwt]; exact hl) | (rw [show cwF g y (i + 1) = cwF g y i + 1 from if_neg hwt]; exact hl))
  refine lv_iconst (v := nI 0) hx hb dX5_countWaiting_0 (by decide) ?_
  refine lv_istore_n (lv' := [(2, .int (nI 0)), (0, .ref (ad 0)), (1, .int y)]) hx hb dX5_countWaiting_1 rfl hl (by decide) rfl (fun ls hl => ?_)
  refine lv_iconst (v := nI 0) hx hb dX5_countWaiting_2 (by decide) ?_
  refine lv_istore_n (lv' := [(3, .int (nI 0)), (2, .int (nI 0)), (0, .ref (ad 0)), (1, .int y)]) hx hb dX5_countWaiting_3 rfl hl (by decide) rfl (fun ls hl => ?_)
  exact P_4 ((n 2 + 1)) 0 _ _ _ (by omega) (by omega) hw (lv_sub hl [2, 3, 1, 0] rfl)

abbrev rmX5_firstCopyFor : Room := { frames := 4, cells := 0, slots := 0, locals := 98 }

set_option maxHeartbeats 4000000 in
set_option maxRecDepth 100000 in
theorem k_X5_firstCopyFor_none (l : Launch) (D : va_G) (ca : Nat → ClassId) (N : Nat) (ad : Nat → Nat) (B tR tK : Nat) (f : Nat → va_E) (dd : xD N ad B) (hN : 302 ≤ N) (n : Nat → Nat) (g : Nat → Nat → Int32) (z : Nat → Nat → Int32) (zn : Nat) (tb : Nat → Int32) (hR : RepX ca ad n g z zn tb f) (j : Nat) (h2 : n 2 ≤ 20) (hsz : ∀ i, i < 20 → n (10 + i) ≤ 200) (hj : j < 20) (hno : ∀ i, i < n 2 → ¬ (fitsX n g i i ∧ fitsX n g i j)) : xMi l yX5_firstCopyFor wsX5_firstCopyFor rmX5_firstCopyFor [.ref (ad 0), .ref (ad (10 + 4 * j))] D ca N ad B tR tK f (fun r u => (-1) = r ∧ ∃ (z1 : Nat → Nat → Int32) (zn1 : Nat), RepX ca ad n g z1 zn1 tb u ∧ ∀ y, 302 ≤ y → u y = f y) := by
  refine x_open (cc := cX5_firstCopyFor) (maxL := 4) (ret := (some .int)) (by decide) rfl (Nat.le_of_ble_eq_true rfl) ?_
  intro p e s m below meth c ls hx hb hml hown hts hr hlocks hnm hB hK hE hw hl
  have hown : s.vm.findClass RX5 = some m.cls := hown
  have hl : lv_has ls 4 [(0, .ref (ad 0)), (1, .ref (ad (10 + 4 * j)))] := hl
  obtain ⟨c_0, c_1, c_2, c_3, c_4, c_5, c_6, c_7, c_8, c_9, c_90, c_91, c_92, c_93, c_94, c_95, c_96, c_97, c_98, c_99, c_300, c_301, F_kf, F_oc, F_va, F_lw, F_M, hzn, hT⟩ := hR
  have hin_6 : ∀ w ∈ u_ws RX5 TX5 13, w ∈ wsX5_firstCopyFor := by decide +kernel
  have hf_100 := hts (.fieldLink RX5 100 "FixityRows" "fileCount" "I") (by decide +kernel)
  have hf_49 := hts (.fieldLink RX5 49 "FixityRows" "files" "[LFixityRows$KeptFile;") (by decide +kernel)
  have hin_1 : ∀ w ∈ u_ws RX0 TX0 8, w ∈ wsX5_firstCopyFor := by decide +kernel
  have b_0 := c_0
  have b_1 := c_1
  have b_2 := c_2
  have b_3 := c_3
  have b_4 := c_4
  have b_5 := c_5
  have b_6 := c_6
  have b_7 := c_7
  have b_8 := c_8
  have b_9 := c_9
  have b_90 := c_90
  have b_91 := c_91
  have b_92 := c_92
  have b_93 := c_93
  have b_94 := c_94
  have b_95 := c_95
  have b_96 := c_96
  have b_97 := c_97
  have b_98 := c_98
  have b_99 := c_99
  have b_300 := c_300
  have b_301 := c_301
  have P_2 : ∀ (n_2 : Nat) (i : Nat) (fc : Nat → va_E) (zc : Nat → Nat → Int32) (znc : Nat) (H : Heap) (locs : List Loc) (ls : Array Slot), n 2 + 1 ≤ i + n_2 → (i ≤ n 2) → RepX ca ad n g zc znc tb fc → (∀ y, 302 ≤ y → fc y = f y) → xw D vwCl N ad B s.heap fc H locs → lv_has ls 4 [(0, .ref (ad 0)), (1, .ref (ad (10 + 4 * j))), (2, .int (nI i))] → W p l e rmX5_firstCopyFor s m ([.ref (ad 0), .ref (ad (10 + 4 * j))] : List Value).toArray below meth c H locs 0 0 (MQ below (xQi (fun r u => (-1) = r ∧ ∃ (z1 : Nat → Nat → Int32) (zn1 : Nat), RepX ca ad n g z1 zn1 tb u ∧ ∀ y, 302 ≤ y → u y = f y) D N ad B) ([.ref (ad 0), .ref (ad (10 + 4 * j))] : List Value).toArray s 0 0 (xA B)) (F0 m 2 ls []) := by
    intro n_2
    induction n_2 with
    | zero =>
      intro i fc zc znc H locs ls hm_2 hi hRc hfr hw hl
      exact absurd hm_2 (by omega)
    | succ n_2 ih_2 =>
      intro i fc zc znc H locs ls hm_2 hi hRc hfr hw hl
      obtain ⟨c_0, c_1, c_2, c_3, c_4, c_5, c_6, c_7, c_8, c_9, c_90, c_91, c_92, c_93, c_94, c_95, c_96, c_97, c_98, c_99, c_300, c_301, F_kf, F_oc, F_va, F_lw, F_M, hzn, hT⟩ := hRc
      refine lv_iload_n hx hb dX5_firstCopyFor_2 rfl (lv_at hl 2 rfl) ?_
      refine lv_aload_n hx hb dX5_firstCopyFor_3 rfl (lv_at hl 0 rfl) ?_
      refine x_get (ci := 6) (C := RX5) (T := TX5) (n := 13) (ref := RX5) hx hb hts hin_6 hown hK hw 0 (by omega) c_0 rfl 7 (by decide) hf_100 (fun _ h => h) rfl dX5_firstCopyFor_4 ?_
      refine n_icge (tgt := 49) hx hb dX5_firstCopyFor_7 (by decide) (by omega) (by omega) (fun hc_7 => ?_) (fun hc_7 => ?_)
      · refine lv_iconst (v := (-1)) hx hb dX5_firstCopyFor_49 (by decide) ?_
        have hRz : RepX ca ad n g zc znc tb fc := ⟨c_0,
              c_1,
              c_2,
              c_3,
              c_4,
              c_5,
              c_6,
              c_7,
              c_8,
              c_9,
              c_90,
              c_91,
              c_92,
              c_93,
              c_94,
              c_95,
              c_96,
              c_97,
              c_98,
              c_99,
              c_300,
              c_301,
              (fun i9 hi9 => by exact F_kf i9 hi9),
              (fun i9 hi9 => by exact F_oc i9 hi9),
              (fun i9 hi9 => by exact F_va i9 hi9),
              (fun i9 hi9 => by exact F_lw i9 hi9),
              (fun i9 hi9 => by exact F_M i9 hi9), hzn, hT⟩
        exact x_iret hx hb hr hlocks hw ⟨rfl, zc, znc, hRz, (fun y hy => hfr y hy)⟩ dX5_firstCopyFor_50
      · refine lv_aload_n hx hb dX5_firstCopyFor_10 rfl (lv_at hl 0 rfl) ?_
        refine x_get (ci := 6) (C := RX5) (T := TX5) (n := 13) (ref := RX5) hx hb hts hin_6 hown hK hw 0 (by omega) c_0 rfl 6 (by decide) hf_49 (fun _ h => h) rfl dX5_firstCopyFor_11 ?_
        refine lv_iload_n hx hb dX5_firstCopyFor_14 rfl (lv_at hl 2 rfl) ?_
        refine x_aald (j := i) (a := ad (10 + 4 * i)) hx hb hK hw 9 3 (by omega) c_9 rfl rfl (by omega) (by decide) rfl dX5_firstCopyFor_15 ?_
        refine lv_astore_n (lv' := [(3, .ref (ad (10 + 4 * i))), (0, .ref (ad 0)), (1, .ref (ad (10 + 4 * j))), (2, .int (nI i))]) hx hb dX5_firstCopyFor_16 rfl hl (by decide) rfl (fun ls hl => ?_)
        rcases Classical.em (fitsX n g i i) with hf1 | hf1
        · refine lv_aload_n hx hb dX5_firstCopyFor_17 rfl (lv_at hl 1 rfl) ?_
          refine lv_aload_n hx hb dX5_firstCopyFor_18 rfl (lv_at hl 0 rfl) ?_
          have c_10_4_i : fc (10 + 4 * i) = .inr (1, [.ref (ad (11 + 4 * i)), .ref (ad (13 + 4 * i)), .int (g 7 i), .int (g 8 i), .int (g 9 i), .int (g 10 i), .int (g 11 i), .int (g 12 i)]) := (F_kf i (by omega))
          refine x_getN (ci := 1) (C := RX0) (T := TX0) (n := 8) (ref := RX0) hx hb hts hin_1 hown hK hw (10 + 4 * i) (by omega) c_10_4_i rfl 0 (by decide) (hE.1 (103, "octets", "LFixityRows$Octets;") (by decide)) (fun _ h => h) rfl dX5_firstCopyFor_19 ?_
          refine lv_aload_n hx hb dX5_firstCopyFor_22 rfl (lv_at hl 0 rfl) ?_
          have hRk : RepX ca ad n g zc znc tb fc := ⟨c_0,
                c_1,
                c_2,
                c_3,
                c_4,
                c_5,
                c_6,
                c_7,
                c_8,
                c_9,
                c_90,
                c_91,
                c_92,
                c_93,
                c_94,
                c_95,
                c_96,
                c_97,
                c_98,
                c_99,
                c_300,
                c_301,
                (fun i9 hi9 => by exact F_kf i9 hi9),
                (fun i9 hi9 => by exact F_oc i9 hi9),
                (fun i9 hi9 => by exact F_va i9 hi9),
                (fun i9 hi9 => by exact F_lw i9 hi9),
                (fun i9 hi9 => by exact F_M i9 hi9), hzn, hT⟩
          have hfr : ∀ y, 302 ≤ y → fc y = f y := (fun y hy => hfr y hy)
          refine x_Vi (q := 0) (As := [.ref (ad (11 + 4 * i)), .ref (ad (10 + 4 * i))]) (rest := []) ⟨hx, hb, hml, hown, hts⟩ (k_X5_matches_yes l D ca N ad B tR tK fc dd hN n g zc znc tb hRk i i (by omega) (by omega) hsz hf1) (cwV 2 hts gX5_firstCopyFor_X5_matches rfl rfl rfl (by decide +kernel) ⟨Nat.le_of_ble_eq_true rfl, Nat.le_of_ble_eq_true rfl⟩) hK hE hB hw (by omega) c_0 rfl rfl rfl rfl hl.1 (Nat.le_of_ble_eq_true rfl) ⟨Nat.zero_le _, Nat.zero_le _⟩ dX5_firstCopyFor_23 (fun r_2 f_1 H locs hp hw => ?_)
          obtain ⟨er, hp⟩ := hp
          rw [← er]
          obtain ⟨z_3, zn_4, hR2, hfr2⟩ := hp
          have hfr : ∀ y, 302 ≤ y → f_1 y = f y := fun y hy => (hfr2 y hy).trans (hfr y hy)
          obtain ⟨c_0, c_1, c_2, c_3, c_4, c_5, c_6, c_7, c_8, c_9, c_90, c_91, c_92, c_93, c_94, c_95, c_96, c_97, c_98, c_99, c_300, c_301, F_kf, F_oc, F_va, F_lw, F_M, hzn, hT⟩ := hR2
          refine lv_if_eq (tgt := 43) hx hb dX5_firstCopyFor_26 (by decide) (fun h => absurd h (by decide)) (fun _ => ?_)
          refine lv_aload_n hx hb dX5_firstCopyFor_29 rfl (lv_at hl 1 rfl) ?_
          refine lv_aload_n hx hb dX5_firstCopyFor_30 rfl (lv_at hl 0 rfl) ?_
          have c_10_4_i : f_1 (10 + 4 * i) = .inr (1, [.ref (ad (11 + 4 * i)), .ref (ad (13 + 4 * i)), .int (g 7 i), .int (g 8 i), .int (g 9 i), .int (g 10 i), .int (g 11 i), .int (g 12 i)]) := (F_kf i (by omega))
          refine x_getN (ci := 1) (C := RX0) (T := TX0) (n := 8) (ref := RX0) hx hb hts hin_1 hown hK hw (10 + 4 * i) (by omega) c_10_4_i rfl 0 (by decide) (hE.1 (103, "octets", "LFixityRows$Octets;") (by decide)) (fun _ h => h) rfl dX5_firstCopyFor_31 ?_
          refine lv_aload_n hx hb dX5_firstCopyFor_34 rfl (lv_at hl 2 rfl) ?_
          have hRk : RepX ca ad n g z_3 zn_4 tb f_1 := ⟨c_0,
                c_1,
                c_2,
                c_3,
                c_4,
                c_5,
                c_6,
                c_7,
                c_8,
                c_9,
                c_90,
                c_91,
                c_92,
                c_93,
                c_94,
                c_95,
                c_96,
                c_97,
                c_98,
                c_99,
                c_300,
                c_301,
                (fun i9 hi9 => by exact F_kf i9 hi9),
                (fun i9 hi9 => by exact F_oc i9 hi9),
                (fun i9 hi9 => by exact F_va i9 hi9),
                (fun i9 hi9 => by exact F_lw i9 hi9),
                (fun i9 hi9 => by exact F_M i9 hi9), hzn, hT⟩
          have hfr : ∀ y, 302 ≤ y → f_1 y = f y := (fun y hy => hfr y hy)
          refine x_Vi (q := 0) (As := [.ref (ad (11 + 4 * i)), .ref (ad (10 + 4 * j))]) (rest := []) ⟨hx, hb, hml, hown, hts⟩ (k_X5_matches_no l D ca N ad B tR tK f_1 dd hN n g z_3 zn_4 tb hRk i j (by omega) (by omega) hsz (fun q => hno i (by omega) ⟨hf1, q⟩)) (cwV 2 hts gX5_firstCopyFor_X5_matches rfl rfl rfl (by decide +kernel) ⟨Nat.le_of_ble_eq_true rfl, Nat.le_of_ble_eq_true rfl⟩) hK hE hB hw (by omega) c_0 rfl rfl rfl rfl hl.1 (Nat.le_of_ble_eq_true rfl) ⟨Nat.zero_le _, Nat.zero_le _⟩ dX5_firstCopyFor_35 (fun r_8 f_7 H locs hp hw => ?_)
          obtain ⟨er, hp⟩ := hp
          rw [← er]
          obtain ⟨z_9, zn_10, hR2, hfr2⟩ := hp
          have hfr : ∀ y, 302 ≤ y → f_7 y = f y := fun y hy => (hfr2 y hy).trans (hfr y hy)
          obtain ⟨c_0, c_1, c_2, c_3, c_4, c_5, c_6, c_7, c_8, c_9, c_90, c_91, c_92, c_93, c_94, c_95, c_96, c_97, c_98, c_99, c_300, c_301, F_kf, F_oc, F_va, F_lw, F_M, hzn, hT⟩ := hR2
          refine lv_if_eq (tgt := 43) hx hb dX5_firstCopyFor_38 (by decide) (fun _ => ?_) (fun h => False.elim (h (by decide)))
          refine lv_iinc (v := nI (i + 1)) (lv' := [(2, .int (nI (i + 1))), (3, .ref (ad (10 + 4 * i))), (0, .ref (ad 0)), (1, .ref (ad (10 + 4 * j)))]) hx hb dX5_firstCopyFor_43 hl (k := 3) rfl (by rw [show Int32.ofInt 1 = nI 1 from rfl]; exact nI_add _ _) (by decide) rfl (fun ls hl => ?_)
          refine lv_goto (tgt := 2) hx hb dX5_firstCopyFor_46 (by decide) ?_
          have hRk : RepX ca ad n g z_9 zn_10 tb f_7 := ⟨c_0,
                c_1,
                c_2,
                c_3,
                c_4,
                c_5,
                c_6,
                c_7,
                c_8,
                c_9,
                c_90,
                c_91,
                c_92,
                c_93,
                c_94,
                c_95,
                c_96,
                c_97,
                c_98,
                c_99,
                c_300,
                c_301,
                (fun i9 hi9 => by exact F_kf i9 hi9),
                (fun i9 hi9 => by exact F_oc i9 hi9),
                (fun i9 hi9 => by exact F_va i9 hi9),
                (fun i9 hi9 => by exact F_lw i9 hi9),
                (fun i9 hi9 => by exact F_M i9 hi9), hzn, hT⟩
          have hfr : ∀ y, 302 ≤ y → f_7 y = f y := (fun y hy => hfr y hy)
          exact ih_2 (i + 1) _ _ _ _ _ _ (by omega) (by omega) hRk hfr hw (lv_sub hl [2, 3, 0] rfl)
        · refine lv_aload_n hx hb dX5_firstCopyFor_17 rfl (lv_at hl 1 rfl) ?_
          refine lv_aload_n hx hb dX5_firstCopyFor_18 rfl (lv_at hl 0 rfl) ?_
          have c_10_4_i : fc (10 + 4 * i) = .inr (1, [.ref (ad (11 + 4 * i)), .ref (ad (13 + 4 * i)), .int (g 7 i), .int (g 8 i), .int (g 9 i), .int (g 10 i), .int (g 11 i), .int (g 12 i)]) := (F_kf i (by omega))
          refine x_getN (ci := 1) (C := RX0) (T := TX0) (n := 8) (ref := RX0) hx hb hts hin_1 hown hK hw (10 + 4 * i) (by omega) c_10_4_i rfl 0 (by decide) (hE.1 (103, "octets", "LFixityRows$Octets;") (by decide)) (fun _ h => h) rfl dX5_firstCopyFor_19 ?_
          refine lv_aload_n hx hb dX5_firstCopyFor_22 rfl (lv_at hl 0 rfl) ?_
          have hRk : RepX ca ad n g zc znc tb fc := ⟨c_0,
                c_1,
                c_2,
                c_3,
                c_4,
                c_5,
                c_6,
                c_7,
                c_8,
                c_9,
                c_90,
                c_91,
                c_92,
                c_93,
                c_94,
                c_95,
                c_96,
                c_97,
                c_98,
                c_99,
                c_300,
                c_301,
                (fun i9 hi9 => by exact F_kf i9 hi9),
                (fun i9 hi9 => by exact F_oc i9 hi9),
                (fun i9 hi9 => by exact F_va i9 hi9),
                (fun i9 hi9 => by exact F_lw i9 hi9),
                (fun i9 hi9 => by exact F_M i9 hi9), hzn, hT⟩
          have hfr : ∀ y, 302 ≤ y → fc y = f y := (fun y hy => hfr y hy)
          refine x_Vi (q := 0) (As := [.ref (ad (11 + 4 * i)), .ref (ad (10 + 4 * i))]) (rest := []) ⟨hx, hb, hml, hown, hts⟩ (k_X5_matches_no l D ca N ad B tR tK fc dd hN n g zc znc tb hRk i i (by omega) (by omega) hsz hf1) (cwV 2 hts gX5_firstCopyFor_X5_matches rfl rfl rfl (by decide +kernel) ⟨Nat.le_of_ble_eq_true rfl, Nat.le_of_ble_eq_true rfl⟩) hK hE hB hw (by omega) c_0 rfl rfl rfl rfl hl.1 (Nat.le_of_ble_eq_true rfl) ⟨Nat.zero_le _, Nat.zero_le _⟩ dX5_firstCopyFor_23 (fun r_14 f_13 H locs hp hw => ?_)
          obtain ⟨er, hp⟩ := hp
          rw [← er]
          obtain ⟨z_15, zn_16, hR2, hfr2⟩ := hp
          have hfr : ∀ y, 302 ≤ y → f_13 y = f y := fun y hy => (hfr2 y hy).trans (hfr y hy)
          obtain ⟨c_0, c_1, c_2, c_3, c_4, c_5, c_6, c_7, c_8, c_9, c_90, c_91, c_92, c_93, c_94, c_95, c_96, c_97, c_98, c_99, c_300, c_301, F_kf, F_oc, F_va, F_lw, F_M, hzn, hT⟩ := hR2
          refine lv_if_eq (tgt := 43) hx hb dX5_firstCopyFor_26 (by decide) (fun _ => ?_) (fun h => False.elim (h (by decide)))
          refine lv_iinc (v := nI (i + 1)) (lv' := [(2, .int (nI (i + 1))), (3, .ref (ad (10 + 4 * i))), (0, .ref (ad 0)), (1, .ref (ad (10 + 4 * j)))]) hx hb dX5_firstCopyFor_43 hl (k := 3) rfl (by rw [show Int32.ofInt 1 = nI 1 from rfl]; exact nI_add _ _) (by decide) rfl (fun ls hl => ?_)
          refine lv_goto (tgt := 2) hx hb dX5_firstCopyFor_46 (by decide) ?_
          have hRk : RepX ca ad n g z_15 zn_16 tb f_13 := ⟨c_0,
                c_1,
                c_2,
                c_3,
                c_4,
                c_5,
                c_6,
                c_7,
                c_8,
                c_9,
                c_90,
                c_91,
                c_92,
                c_93,
                c_94,
                c_95,
                c_96,
                c_97,
                c_98,
                c_99,
                c_300,
                c_301,
                (fun i9 hi9 => by exact F_kf i9 hi9),
                (fun i9 hi9 => by exact F_oc i9 hi9),
                (fun i9 hi9 => by exact F_va i9 hi9),
                (fun i9 hi9 => by exact F_lw i9 hi9),
                (fun i9 hi9 => by exact F_M i9 hi9), hzn, hT⟩
          have hfr : ∀ y, 302 ≤ y → f_13 y = f y := (fun y hy => hfr y hy)
          exact ih_2 (i + 1) _ _ _ _ _ _ (by omega) (by omega) hRk hfr hw (lv_sub hl [2, 3, 0] rfl)
  refine lv_iconst (v := nI 0) hx hb dX5_firstCopyFor_0 (by decide) ?_
  refine lv_istore_n (lv' := [(2, .int (nI 0)), (0, .ref (ad 0)), (1, .ref (ad (10 + 4 * j)))]) hx hb dX5_firstCopyFor_1 rfl hl (by decide) rfl (fun ls hl => ?_)
  have hRk : RepX ca ad n g z zn tb f := ⟨c_0,
        c_1,
        c_2,
        c_3,
        c_4,
        c_5,
        c_6,
        c_7,
        c_8,
        c_9,
        c_90,
        c_91,
        c_92,
        c_93,
        c_94,
        c_95,
        c_96,
        c_97,
        c_98,
        c_99,
        c_300,
        c_301,
        (fun i9 hi9 => by exact F_kf i9 hi9),
        (fun i9 hi9 => by exact F_oc i9 hi9),
        (fun i9 hi9 => by exact F_va i9 hi9),
        (fun i9 hi9 => by exact F_lw i9 hi9),
        (fun i9 hi9 => by exact F_M i9 hi9), hzn, hT⟩
  have hfr : ∀ y, 302 ≤ y → f y = f y := (fun _ _ => rfl)
  exact P_2 ((n 2 + 1)) 0 _ _ _ _ _ _ (by omega) (by omega) hRk hfr hw (lv_sub hl [1, 2, 0] rfl)

set_option maxHeartbeats 4000000 in
set_option maxRecDepth 100000 in
theorem k_X5_firstCopyFor_some (l : Launch) (D : va_G) (ca : Nat → ClassId) (N : Nat) (ad : Nat → Nat) (B tR tK : Nat) (f : Nat → va_E) (dd : xD N ad B) (hN : 302 ≤ N) (n : Nat → Nat) (g : Nat → Nat → Int32) (z : Nat → Nat → Int32) (zn : Nat) (tb : Nat → Int32) (hR : RepX ca ad n g z zn tb f) (j : Nat) (b : Nat) (h2 : n 2 ≤ 20) (hsz : ∀ i, i < 20 → n (10 + i) ≤ 200) (hj : j < 20) (hb9 : b < n 2) (hyes : fitsX n g b b ∧ fitsX n g b j) (hno : ∀ i, i < b → ¬ (fitsX n g i i ∧ fitsX n g i j)) : xMi l yX5_firstCopyFor wsX5_firstCopyFor rmX5_firstCopyFor [.ref (ad 0), .ref (ad (10 + 4 * j))] D ca N ad B tR tK f (fun r u => nI b = r ∧ ∃ (z1 : Nat → Nat → Int32) (zn1 : Nat), RepX ca ad n g z1 zn1 tb u ∧ ∀ y, 302 ≤ y → u y = f y) := by
  refine x_open (cc := cX5_firstCopyFor) (maxL := 4) (ret := (some .int)) (by decide) rfl (Nat.le_of_ble_eq_true rfl) ?_
  intro p e s m below meth c ls hx hb hml hown hts hr hlocks hnm hB hK hE hw hl
  have hown : s.vm.findClass RX5 = some m.cls := hown
  have hl : lv_has ls 4 [(0, .ref (ad 0)), (1, .ref (ad (10 + 4 * j)))] := hl
  obtain ⟨c_0, c_1, c_2, c_3, c_4, c_5, c_6, c_7, c_8, c_9, c_90, c_91, c_92, c_93, c_94, c_95, c_96, c_97, c_98, c_99, c_300, c_301, F_kf, F_oc, F_va, F_lw, F_M, hzn, hT⟩ := hR
  have hin_6 : ∀ w ∈ u_ws RX5 TX5 13, w ∈ wsX5_firstCopyFor := by decide +kernel
  have hf_100 := hts (.fieldLink RX5 100 "FixityRows" "fileCount" "I") (by decide +kernel)
  have hf_49 := hts (.fieldLink RX5 49 "FixityRows" "files" "[LFixityRows$KeptFile;") (by decide +kernel)
  have hin_1 : ∀ w ∈ u_ws RX0 TX0 8, w ∈ wsX5_firstCopyFor := by decide +kernel
  have b_0 := c_0
  have b_1 := c_1
  have b_2 := c_2
  have b_3 := c_3
  have b_4 := c_4
  have b_5 := c_5
  have b_6 := c_6
  have b_7 := c_7
  have b_8 := c_8
  have b_9 := c_9
  have b_90 := c_90
  have b_91 := c_91
  have b_92 := c_92
  have b_93 := c_93
  have b_94 := c_94
  have b_95 := c_95
  have b_96 := c_96
  have b_97 := c_97
  have b_98 := c_98
  have b_99 := c_99
  have b_300 := c_300
  have b_301 := c_301
  have P_2 : ∀ (n_2 : Nat) (i : Nat) (fc : Nat → va_E) (zc : Nat → Nat → Int32) (znc : Nat) (H : Heap) (locs : List Loc) (ls : Array Slot), n 2 + 1 ≤ i + n_2 → (i ≤ b) → RepX ca ad n g zc znc tb fc → (∀ y, 302 ≤ y → fc y = f y) → xw D vwCl N ad B s.heap fc H locs → lv_has ls 4 [(0, .ref (ad 0)), (1, .ref (ad (10 + 4 * j))), (2, .int (nI i))] → W p l e rmX5_firstCopyFor s m ([.ref (ad 0), .ref (ad (10 + 4 * j))] : List Value).toArray below meth c H locs 0 0 (MQ below (xQi (fun r u => nI b = r ∧ ∃ (z1 : Nat → Nat → Int32) (zn1 : Nat), RepX ca ad n g z1 zn1 tb u ∧ ∀ y, 302 ≤ y → u y = f y) D N ad B) ([.ref (ad 0), .ref (ad (10 + 4 * j))] : List Value).toArray s 0 0 (xA B)) (F0 m 2 ls []) := by
    intro n_2
    induction n_2 with
    | zero =>
      intro i fc zc znc H locs ls hm_2 hi hRc hfr hw hl
      exact absurd hm_2 (by omega)
    | succ n_2 ih_2 =>
      intro i fc zc znc H locs ls hm_2 hi hRc hfr hw hl
      obtain ⟨c_0, c_1, c_2, c_3, c_4, c_5, c_6, c_7, c_8, c_9, c_90, c_91, c_92, c_93, c_94, c_95, c_96, c_97, c_98, c_99, c_300, c_301, F_kf, F_oc, F_va, F_lw, F_M, hzn, hT⟩ := hRc
      refine lv_iload_n hx hb dX5_firstCopyFor_2 rfl (lv_at hl 2 rfl) ?_
      refine lv_aload_n hx hb dX5_firstCopyFor_3 rfl (lv_at hl 0 rfl) ?_
      refine x_get (ci := 6) (C := RX5) (T := TX5) (n := 13) (ref := RX5) hx hb hts hin_6 hown hK hw 0 (by omega) c_0 rfl 7 (by decide) hf_100 (fun _ h => h) rfl dX5_firstCopyFor_4 ?_
      refine n_icge (tgt := 49) hx hb dX5_firstCopyFor_7 (by decide) (by omega) (by omega) (fun hc_7 => ?_) (fun hc_7 => ?_)
      · omega
      · refine lv_aload_n hx hb dX5_firstCopyFor_10 rfl (lv_at hl 0 rfl) ?_
        refine x_get (ci := 6) (C := RX5) (T := TX5) (n := 13) (ref := RX5) hx hb hts hin_6 hown hK hw 0 (by omega) c_0 rfl 6 (by decide) hf_49 (fun _ h => h) rfl dX5_firstCopyFor_11 ?_
        refine lv_iload_n hx hb dX5_firstCopyFor_14 rfl (lv_at hl 2 rfl) ?_
        refine x_aald (j := i) (a := ad (10 + 4 * i)) hx hb hK hw 9 3 (by omega) c_9 rfl rfl (by omega) (by decide) rfl dX5_firstCopyFor_15 ?_
        refine lv_astore_n (lv' := [(3, .ref (ad (10 + 4 * i))), (0, .ref (ad 0)), (1, .ref (ad (10 + 4 * j))), (2, .int (nI i))]) hx hb dX5_firstCopyFor_16 rfl hl (by decide) rfl (fun ls hl => ?_)
        rcases (show i = b ∨ (i < b ∧ fitsX n g i i) ∨ (i < b ∧ ¬ fitsX n g i i) from (Nat.lt_or_ge i b).elim (fun q => Or.inr ((Classical.em (fitsX n g i i)).elim (fun z => Or.inl ⟨q, z⟩) (fun z => Or.inr ⟨q, z⟩))) (fun q => Or.inl (by omega))) with hib | ⟨hib, hf1⟩ | ⟨hib, hf1⟩
        · refine lv_aload_n hx hb dX5_firstCopyFor_17 rfl (lv_at hl 1 rfl) ?_
          refine lv_aload_n hx hb dX5_firstCopyFor_18 rfl (lv_at hl 0 rfl) ?_
          have c_10_4_i : fc (10 + 4 * i) = .inr (1, [.ref (ad (11 + 4 * i)), .ref (ad (13 + 4 * i)), .int (g 7 i), .int (g 8 i), .int (g 9 i), .int (g 10 i), .int (g 11 i), .int (g 12 i)]) := (F_kf i (by omega))
          refine x_getN (ci := 1) (C := RX0) (T := TX0) (n := 8) (ref := RX0) hx hb hts hin_1 hown hK hw (10 + 4 * i) (by omega) c_10_4_i rfl 0 (by decide) (hE.1 (103, "octets", "LFixityRows$Octets;") (by decide)) (fun _ h => h) rfl dX5_firstCopyFor_19 ?_
          refine lv_aload_n hx hb dX5_firstCopyFor_22 rfl (lv_at hl 0 rfl) ?_
          have hRk : RepX ca ad n g zc znc tb fc := ⟨c_0,
                c_1,
                c_2,
                c_3,
                c_4,
                c_5,
                c_6,
                c_7,
                c_8,
                c_9,
                c_90,
                c_91,
                c_92,
                c_93,
                c_94,
                c_95,
                c_96,
                c_97,
                c_98,
                c_99,
                c_300,
                c_301,
                (fun i9 hi9 => by exact F_kf i9 hi9),
                (fun i9 hi9 => by exact F_oc i9 hi9),
                (fun i9 hi9 => by exact F_va i9 hi9),
                (fun i9 hi9 => by exact F_lw i9 hi9),
                (fun i9 hi9 => by exact F_M i9 hi9), hzn, hT⟩
          have hfr : ∀ y, 302 ≤ y → fc y = f y := (fun y hy => hfr y hy)
          refine x_Vi (q := 0) (As := [.ref (ad (11 + 4 * i)), .ref (ad (10 + 4 * i))]) (rest := []) ⟨hx, hb, hml, hown, hts⟩ (k_X5_matches_yes l D ca N ad B tR tK fc dd hN n g zc znc tb hRk i i (by omega) (by omega) hsz (by rw [hib]; exact hyes.1)) (cwV 2 hts gX5_firstCopyFor_X5_matches rfl rfl rfl (by decide +kernel) ⟨Nat.le_of_ble_eq_true rfl, Nat.le_of_ble_eq_true rfl⟩) hK hE hB hw (by omega) c_0 rfl rfl rfl rfl hl.1 (Nat.le_of_ble_eq_true rfl) ⟨Nat.zero_le _, Nat.zero_le _⟩ dX5_firstCopyFor_23 (fun r_2 f_1 H locs hp hw => ?_)
          obtain ⟨er, hp⟩ := hp
          rw [← er]
          obtain ⟨z_3, zn_4, hR2, hfr2⟩ := hp
          have hfr : ∀ y, 302 ≤ y → f_1 y = f y := fun y hy => (hfr2 y hy).trans (hfr y hy)
          obtain ⟨c_0, c_1, c_2, c_3, c_4, c_5, c_6, c_7, c_8, c_9, c_90, c_91, c_92, c_93, c_94, c_95, c_96, c_97, c_98, c_99, c_300, c_301, F_kf, F_oc, F_va, F_lw, F_M, hzn, hT⟩ := hR2
          refine lv_if_eq (tgt := 43) hx hb dX5_firstCopyFor_26 (by decide) (fun h => absurd h (by decide)) (fun _ => ?_)
          refine lv_aload_n hx hb dX5_firstCopyFor_29 rfl (lv_at hl 1 rfl) ?_
          refine lv_aload_n hx hb dX5_firstCopyFor_30 rfl (lv_at hl 0 rfl) ?_
          have c_10_4_i : f_1 (10 + 4 * i) = .inr (1, [.ref (ad (11 + 4 * i)), .ref (ad (13 + 4 * i)), .int (g 7 i), .int (g 8 i), .int (g 9 i), .int (g 10 i), .int (g 11 i), .int (g 12 i)]) := (F_kf i (by omega))
          refine x_getN (ci := 1) (C := RX0) (T := TX0) (n := 8) (ref := RX0) hx hb hts hin_1 hown hK hw (10 + 4 * i) (by omega) c_10_4_i rfl 0 (by decide) (hE.1 (103, "octets", "LFixityRows$Octets;") (by decide)) (fun _ h => h) rfl dX5_firstCopyFor_31 ?_
          refine lv_aload_n hx hb dX5_firstCopyFor_34 rfl (lv_at hl 2 rfl) ?_
          have hRk : RepX ca ad n g z_3 zn_4 tb f_1 := ⟨c_0,
                c_1,
                c_2,
                c_3,
                c_4,
                c_5,
                c_6,
                c_7,
                c_8,
                c_9,
                c_90,
                c_91,
                c_92,
                c_93,
                c_94,
                c_95,
                c_96,
                c_97,
                c_98,
                c_99,
                c_300,
                c_301,
                (fun i9 hi9 => by exact F_kf i9 hi9),
                (fun i9 hi9 => by exact F_oc i9 hi9),
                (fun i9 hi9 => by exact F_va i9 hi9),
                (fun i9 hi9 => by exact F_lw i9 hi9),
                (fun i9 hi9 => by exact F_M i9 hi9), hzn, hT⟩
          have hfr : ∀ y, 302 ≤ y → f_1 y = f y := (fun y hy => hfr y hy)
          refine x_Vi (q := 0) (As := [.ref (ad (11 + 4 * i)), .ref (ad (10 + 4 * j))]) (rest := []) ⟨hx, hb, hml, hown, hts⟩ (k_X5_matches_yes l D ca N ad B tR tK f_1 dd hN n g z_3 zn_4 tb hRk i j (by omega) (by omega) hsz (by rw [hib]; exact hyes.2)) (cwV 2 hts gX5_firstCopyFor_X5_matches rfl rfl rfl (by decide +kernel) ⟨Nat.le_of_ble_eq_true rfl, Nat.le_of_ble_eq_true rfl⟩) hK hE hB hw (by omega) c_0 rfl rfl rfl rfl hl.1 (Nat.le_of_ble_eq_true rfl) ⟨Nat.zero_le _, Nat.zero_le _⟩ dX5_firstCopyFor_35 (fun r_8 f_7 H locs hp hw => ?_)
          obtain ⟨er, hp⟩ := hp
          rw [← er]
          obtain ⟨z_9, zn_10, hR2, hfr2⟩ := hp
          have hfr : ∀ y, 302 ≤ y → f_7 y = f y := fun y hy => (hfr2 y hy).trans (hfr y hy)
          obtain ⟨c_0, c_1, c_2, c_3, c_4, c_5, c_6, c_7, c_8, c_9, c_90, c_91, c_92, c_93, c_94, c_95, c_96, c_97, c_98, c_99, c_300, c_301, F_kf, F_oc, F_va, F_lw, F_M, hzn, hT⟩ := hR2
          refine lv_if_eq (tgt := 43) hx hb dX5_firstCopyFor_38 (by decide) (fun h => absurd h (by decide)) (fun _ => ?_)
          refine lv_iload_n hx hb dX5_firstCopyFor_41 rfl (lv_at hl 3 rfl) ?_
          have hRz : RepX ca ad n g z_9 zn_10 tb f_7 := ⟨c_0,
                c_1,
                c_2,
                c_3,
                c_4,
                c_5,
                c_6,
                c_7,
                c_8,
                c_9,
                c_90,
                c_91,
                c_92,
                c_93,
                c_94,
                c_95,
                c_96,
                c_97,
                c_98,
                c_99,
                c_300,
                c_301,
                (fun i9 hi9 => by exact F_kf i9 hi9),
                (fun i9 hi9 => by exact F_oc i9 hi9),
                (fun i9 hi9 => by exact F_va i9 hi9),
                (fun i9 hi9 => by exact F_lw i9 hi9),
                (fun i9 hi9 => by exact F_M i9 hi9), hzn, hT⟩
          exact x_iret hx hb hr hlocks hw ⟨(by rw [hib]), z_9, zn_10, hRz, (fun y hy => hfr y hy)⟩ dX5_firstCopyFor_42
        · refine lv_aload_n hx hb dX5_firstCopyFor_17 rfl (lv_at hl 1 rfl) ?_
          refine lv_aload_n hx hb dX5_firstCopyFor_18 rfl (lv_at hl 0 rfl) ?_
          have c_10_4_i : fc (10 + 4 * i) = .inr (1, [.ref (ad (11 + 4 * i)), .ref (ad (13 + 4 * i)), .int (g 7 i), .int (g 8 i), .int (g 9 i), .int (g 10 i), .int (g 11 i), .int (g 12 i)]) := (F_kf i (by omega))
          refine x_getN (ci := 1) (C := RX0) (T := TX0) (n := 8) (ref := RX0) hx hb hts hin_1 hown hK hw (10 + 4 * i) (by omega) c_10_4_i rfl 0 (by decide) (hE.1 (103, "octets", "LFixityRows$Octets;") (by decide)) (fun _ h => h) rfl dX5_firstCopyFor_19 ?_
          refine lv_aload_n hx hb dX5_firstCopyFor_22 rfl (lv_at hl 0 rfl) ?_
          have hRk : RepX ca ad n g zc znc tb fc := ⟨c_0,
                c_1,
                c_2,
                c_3,
                c_4,
                c_5,
                c_6,
                c_7,
                c_8,
                c_9,
                c_90,
                c_91,
                c_92,
                c_93,
                c_94,
                c_95,
                c_96,
                c_97,
                c_98,
                c_99,
                c_300,
                c_301,
                (fun i9 hi9 => by exact F_kf i9 hi9),
                (fun i9 hi9 => by exact F_oc i9 hi9),
                (fun i9 hi9 => by exact F_va i9 hi9),
                (fun i9 hi9 => by exact F_lw i9 hi9),
                (fun i9 hi9 => by exact F_M i9 hi9), hzn, hT⟩
          have hfr : ∀ y, 302 ≤ y → fc y = f y := (fun y hy => hfr y hy)
          refine x_Vi (q := 0) (As := [.ref (ad (11 + 4 * i)), .ref (ad (10 + 4 * i))]) (rest := []) ⟨hx, hb, hml, hown, hts⟩ (k_X5_matches_yes l D ca N ad B tR tK fc dd hN n g zc znc tb hRk i i (by omega) (by omega) hsz hf1) (cwV 2 hts gX5_firstCopyFor_X5_matches rfl rfl rfl (by decide +kernel) ⟨Nat.le_of_ble_eq_true rfl, Nat.le_of_ble_eq_true rfl⟩) hK hE hB hw (by omega) c_0 rfl rfl rfl rfl hl.1 (Nat.le_of_ble_eq_true rfl) ⟨Nat.zero_le _, Nat.zero_le _⟩ dX5_firstCopyFor_23 (fun r_14 f_13 H locs hp hw => ?_)
          obtain ⟨er, hp⟩ := hp
          rw [← er]
          obtain ⟨z_15, zn_16, hR2, hfr2⟩ := hp
          have hfr : ∀ y, 302 ≤ y → f_13 y = f y := fun y hy => (hfr2 y hy).trans (hfr y hy)
          obtain ⟨c_0, c_1, c_2, c_3, c_4, c_5, c_6, c_7, c_8, c_9, c_90, c_91, c_92, c_93, c_94, c_95, c_96, c_97, c_98, c_99, c_300, c_301, F_kf, F_oc, F_va, F_lw, F_M, hzn, hT⟩ := hR2
          refine lv_if_eq (tgt := 43) hx hb dX5_firstCopyFor_26 (by decide) (fun h => absurd h (by decide)) (fun _ => ?_)
          refine lv_aload_n hx hb dX5_firstCopyFor_29 rfl (lv_at hl 1 rfl) ?_
          refine lv_aload_n hx hb dX5_firstCopyFor_30 rfl (lv_at hl 0 rfl) ?_
          have c_10_4_i : f_13 (10 + 4 * i) = .inr (1, [.ref (ad (11 + 4 * i)), .ref (ad (13 + 4 * i)), .int (g 7 i), .int (g 8 i), .int (g 9 i), .int (g 10 i), .int (g 11 i), .int (g 12 i)]) := (F_kf i (by omega))
          refine x_getN (ci := 1) (C := RX0) (T := TX0) (n := 8) (ref := RX0) hx hb hts hin_1 hown hK hw (10 + 4 * i) (by omega) c_10_4_i rfl 0 (by decide) (hE.1 (103, "octets", "LFixityRows$Octets;") (by decide)) (fun _ h => h) rfl dX5_firstCopyFor_31 ?_
          refine lv_aload_n hx hb dX5_firstCopyFor_34 rfl (lv_at hl 2 rfl) ?_
          have hRk : RepX ca ad n g z_15 zn_16 tb f_13 := ⟨c_0,
                c_1,
                c_2,
                c_3,
                c_4,
                c_5,
                c_6,
                c_7,
                c_8,
                c_9,
                c_90,
                c_91,
                c_92,
                c_93,
                c_94,
                c_95,
                c_96,
                c_97,
                c_98,
                c_99,
                c_300,
                c_301,
                (fun i9 hi9 => by exact F_kf i9 hi9),
                (fun i9 hi9 => by exact F_oc i9 hi9),
                (fun i9 hi9 => by exact F_va i9 hi9),
                (fun i9 hi9 => by exact F_lw i9 hi9),
                (fun i9 hi9 => by exact F_M i9 hi9), hzn, hT⟩
          have hfr : ∀ y, 302 ≤ y → f_13 y = f y := (fun y hy => hfr y hy)
          refine x_Vi (q := 0) (As := [.ref (ad (11 + 4 * i)), .ref (ad (10 + 4 * j))]) (rest := []) ⟨hx, hb, hml, hown, hts⟩ (k_X5_matches_no l D ca N ad B tR tK f_13 dd hN n g z_15 zn_16 tb hRk i j (by omega) (by omega) hsz (fun q => hno i hib ⟨hf1, q⟩)) (cwV 2 hts gX5_firstCopyFor_X5_matches rfl rfl rfl (by decide +kernel) ⟨Nat.le_of_ble_eq_true rfl, Nat.le_of_ble_eq_true rfl⟩) hK hE hB hw (by omega) c_0 rfl rfl rfl rfl hl.1 (Nat.le_of_ble_eq_true rfl) ⟨Nat.zero_le _, Nat.zero_le _⟩ dX5_firstCopyFor_35 (fun r_20 f_19 H locs hp hw => ?_)
          obtain ⟨er, hp⟩ := hp
          rw [← er]
          obtain ⟨z_21, zn_22, hR2, hfr2⟩ := hp
          have hfr : ∀ y, 302 ≤ y → f_19 y = f y := fun y hy => (hfr2 y hy).trans (hfr y hy)
          obtain ⟨c_0, c_1, c_2, c_3, c_4, c_5, c_6, c_7, c_8, c_9, c_90, c_91, c_92, c_93, c_94, c_95, c_96, c_97, c_98, c_99, c_300, c_301, F_kf, F_oc, F_va, F_lw, F_M, hzn, hT⟩ := hR2
          refine lv_if_eq (tgt := 43) hx hb dX5_firstCopyFor_38 (by decide) (fun _ => ?_) (fun h => False.elim (h (by decide)))
          refine lv_iinc (v := nI (i + 1)) (lv' := [(2, .int (nI (i + 1))), (3, .ref (ad (10 + 4 * i))), (0, .ref (ad 0)), (1, .ref (ad (10 + 4 * j)))]) hx hb dX5_firstCopyFor_43 hl (k := 3) rfl (by rw [show Int32.ofInt 1 = nI 1 from rfl]; exact nI_add _ _) (by decide) rfl (fun ls hl => ?_)
          refine lv_goto (tgt := 2) hx hb dX5_firstCopyFor_46 (by decide) ?_
          have hRk : RepX ca ad n g z_21 zn_22 tb f_19 := ⟨c_0,
                c_1,
                c_2,
                c_3,
                c_4,
                c_5,
                c_6,
                c_7,
                c_8,
                c_9,
                c_90,
                c_91,
                c_92,
                c_93,
                c_94,
                c_95,
                c_96,
                c_97,
                c_98,
                c_99,
                c_300,
                c_301,
                (fun i9 hi9 => by exact F_kf i9 hi9),
                (fun i9 hi9 => by exact F_oc i9 hi9),
                (fun i9 hi9 => by exact F_va i9 hi9),
                (fun i9 hi9 => by exact F_lw i9 hi9),
                (fun i9 hi9 => by exact F_M i9 hi9), hzn, hT⟩
          have hfr : ∀ y, 302 ≤ y → f_19 y = f y := (fun y hy => hfr y hy)
          exact ih_2 (i + 1) _ _ _ _ _ _ (by omega) (by omega) hRk hfr hw (lv_sub hl [2, 3, 0] rfl)
        · refine lv_aload_n hx hb dX5_firstCopyFor_17 rfl (lv_at hl 1 rfl) ?_
          refine lv_aload_n hx hb dX5_firstCopyFor_18 rfl (lv_at hl 0 rfl) ?_
          have c_10_4_i : fc (10 + 4 * i) = .inr (1, [.ref (ad (11 + 4 * i)), .ref (ad (13 + 4 * i)), .int (g 7 i), .int (g 8 i), .int (g 9 i), .int (g 10 i), .int (g 11 i), .int (g 12 i)]) := (F_kf i (by omega))
          refine x_getN (ci := 1) (C := RX0) (T := TX0) (n := 8) (ref := RX0) hx hb hts hin_1 hown hK hw (10 + 4 * i) (by omega) c_10_4_i rfl 0 (by decide) (hE.1 (103, "octets", "LFixityRows$Octets;") (by decide)) (fun _ h => h) rfl dX5_firstCopyFor_19 ?_
          refine lv_aload_n hx hb dX5_firstCopyFor_22 rfl (lv_at hl 0 rfl) ?_
          have hRk : RepX ca ad n g zc znc tb fc := ⟨c_0,
                c_1,
                c_2,
                c_3,
                c_4,
                c_5,
                c_6,
                c_7,
                c_8,
                c_9,
                c_90,
                c_91,
                c_92,
                c_93,
                c_94,
                c_95,
                c_96,
                c_97,
                c_98,
                c_99,
                c_300,
                c_301,
                (fun i9 hi9 => by exact F_kf i9 hi9),
                (fun i9 hi9 => by exact F_oc i9 hi9),
                (fun i9 hi9 => by exact F_va i9 hi9),
                (fun i9 hi9 => by exact F_lw i9 hi9),
                (fun i9 hi9 => by exact F_M i9 hi9), hzn, hT⟩
          have hfr : ∀ y, 302 ≤ y → fc y = f y := (fun y hy => hfr y hy)
          refine x_Vi (q := 0) (As := [.ref (ad (11 + 4 * i)), .ref (ad (10 + 4 * i))]) (rest := []) ⟨hx, hb, hml, hown, hts⟩ (k_X5_matches_no l D ca N ad B tR tK fc dd hN n g zc znc tb hRk i i (by omega) (by omega) hsz hf1) (cwV 2 hts gX5_firstCopyFor_X5_matches rfl rfl rfl (by decide +kernel) ⟨Nat.le_of_ble_eq_true rfl, Nat.le_of_ble_eq_true rfl⟩) hK hE hB hw (by omega) c_0 rfl rfl rfl rfl hl.1 (Nat.le_of_ble_eq_true rfl) ⟨Nat.zero_le _, Nat.zero_le _⟩ dX5_firstCopyFor_23 (fun r_26 f_25 H locs hp hw => ?_)
          obtain ⟨er, hp⟩ := hp
          rw [← er]
          obtain ⟨z_27, zn_28, hR2, hfr2⟩ := hp
          have hfr : ∀ y, 302 ≤ y → f_25 y = f y := fun y hy => (hfr2 y hy).trans (hfr y hy)
          obtain ⟨c_0, c_1, c_2, c_3, c_4, c_5, c_6, c_7, c_8, c_9, c_90, c_91, c_92, c_93, c_94, c_95, c_96, c_97, c_98, c_99, c_300, c_301, F_kf, F_oc, F_va, F_lw, F_M, hzn, hT⟩ := hR2
          refine lv_if_eq (tgt := 43) hx hb dX5_firstCopyFor_26 (by decide) (fun _ => ?_) (fun h => False.elim (h (by decide)))
          refine lv_iinc (v := nI (i + 1)) (lv' := [(2, .int (nI (i + 1))), (3, .ref (ad (10 + 4 * i))), (0, .ref (ad 0)), (1, .ref (ad (10 + 4 * j)))]) hx hb dX5_firstCopyFor_43 hl (k := 3) rfl (by rw [show Int32.ofInt 1 = nI 1 from rfl]; exact nI_add _ _) (by decide) rfl (fun ls hl => ?_)
          refine lv_goto (tgt := 2) hx hb dX5_firstCopyFor_46 (by decide) ?_
          have hRk : RepX ca ad n g z_27 zn_28 tb f_25 := ⟨c_0,
                c_1,
                c_2,
                c_3,
                c_4,
                c_5,
                c_6,
                c_7,
                c_8,
                c_9,
                c_90,
                c_91,
                c_92,
                c_93,
                c_94,
                c_95,
                c_96,
                c_97,
                c_98,
                c_99,
                c_300,
                c_301,
                (fun i9 hi9 => by exact F_kf i9 hi9),
                (fun i9 hi9 => by exact F_oc i9 hi9),
                (fun i9 hi9 => by exact F_va i9 hi9),
                (fun i9 hi9 => by exact F_lw i9 hi9),
                (fun i9 hi9 => by exact F_M i9 hi9), hzn, hT⟩
          have hfr : ∀ y, 302 ≤ y → f_25 y = f y := (fun y hy => hfr y hy)
          exact ih_2 (i + 1) _ _ _ _ _ _ (by omega) (by omega) hRk hfr hw (lv_sub hl [2, 3, 0] rfl)
  refine lv_iconst (v := nI 0) hx hb dX5_firstCopyFor_0 (by decide) ?_
  refine lv_istore_n (lv' := [(2, .int (nI 0)), (0, .ref (ad 0)), (1, .ref (ad (10 + 4 * j)))]) hx hb dX5_firstCopyFor_1 rfl hl (by decide) rfl (fun ls hl => ?_)
  have hRk : RepX ca ad n g z zn tb f := ⟨c_0,
        c_1,
        c_2,
        c_3,
        c_4,
        c_5,
        c_6,
        c_7,
        c_8,
        c_9,
        c_90,
        c_91,
        c_92,
        c_93,
        c_94,
        c_95,
        c_96,
        c_97,
        c_98,
        c_99,
        c_300,
        c_301,
        (fun i9 hi9 => by exact F_kf i9 hi9),
        (fun i9 hi9 => by exact F_oc i9 hi9),
        (fun i9 hi9 => by exact F_va i9 hi9),
        (fun i9 hi9 => by exact F_lw i9 hi9),
        (fun i9 hi9 => by exact F_M i9 hi9), hzn, hT⟩
  have hfr : ∀ y, 302 ≤ y → f y = f y := (fun _ _ => rfl)
  exact P_2 ((n 2 + 1)) 0 _ _ _ _ _ _ (by omega) (by omega) hRk hfr hw (lv_sub hl [1, 2, 0] rfl)
