/-! ===== the start: what the Statement gives ===== -/
theorem rel0 {cap : Nat} (h1 : 1 ≤ cap) (h2 : cap ≤ 20) : Rel (x5n cap) x5g (x5n cap) x6g := by
  refine ⟨⟨rfl, rfl, rfl, rfl, rfl, rfl, h1, h2, Or.inl rfl, Nat.zero_le _, Nat.zero_le _, Nat.zero_le _, Nat.zero_le _⟩, ?_, ?_, ?_, ?_, ?_, ?_, ?_, ?_, rfl⟩
  · intro i hi
    rw [x5n_hi cap (by omega)]
    exact ⟨Nat.zero_le _, rfl⟩
  · intro k hk
    exact absurd hk (Nat.not_lt_zero k)
  · intro i hi k hk
    rw [x5n_hi cap (by omega)] at hk
    exact absurd hk (Nat.not_lt_zero k)
  · intro k hk
    exact absurd hk (Nat.not_lt_zero k)
  · intro k hk
    exact absurd hk (Nat.not_lt_zero k)
  · intro i hi
    exact ⟨(if_pos hi).symm, (if_pos hi).symm, rfl, rfl, Or.inl ⟨rfl, rfl⟩⟩
  · intro k hk
    exact absurd hk (Nat.not_lt_zero k)
  · intro k hk
    exact absurd hk (Nat.not_lt_zero k)
theorem cap_of (x : Int32) : ∃ cap : Nat, 1 ≤ cap ∧ cap ≤ 20 ∧ (if nI 1 < (if x < nI 20 then x else nI 20) then (if x < nI 20 then x else nI 20) else nI 1) = nI cap ∧ ((¬ nI 1 ≤ x ∧ cap = 1) ∨ (nI 1 ≤ x ∧ ¬ x ≤ nI 20 ∧ cap = 20) ∨ (nI 1 ≤ x ∧ x ≤ nI 20 ∧ x = nI cap)) := by
  have e1 : (nI 1).toInt = 1 := nI_toInt (by decide)
  have e20 : (nI 20).toInt = 20 := nI_toInt (by decide)
  by_cases h1 : nI 1 ≤ x
  · by_cases h2 : x ≤ nI 20
    · have a1 : 1 ≤ x.toInt := by rw [Int32.le_iff_toInt_le, e1] at h1; exact h1
      have a2 : x.toInt ≤ 20 := by rw [Int32.le_iff_toInt_le, e20] at h2; exact h2
      have ex : x = nI x.toInt.toNat := Int32.toInt_inj.mp (by rw [nI_toInt (by omega)]; omega)
      refine ⟨x.toInt.toNat, by omega, by omega, ?_, Or.inr (Or.inr ⟨h1, h2, ex⟩)⟩
      rw [← ex]
      have i1 : (if x < nI 20 then x else nI 20) = x := by
        by_cases h : x < nI 20
        · exact if_pos h
        · rw [if_neg h]
          rw [Int32.lt_iff_toInt_lt, e20] at h
          exact Int32.toInt_inj.mp (by rw [e20]; omega)
      rw [i1]
      by_cases h : nI 1 < x
      · exact if_pos h
      · rw [if_neg h]
        rw [Int32.lt_iff_toInt_lt, e1] at h
        exact Int32.toInt_inj.mp (by rw [e1]; omega)
    · refine ⟨20, by omega, by omega, ?_, Or.inr (Or.inl ⟨h1, h2, rfl⟩)⟩
      have h3 : ¬ x < nI 20 := by
        rw [Int32.le_iff_toInt_le, e20] at h2
        rw [Int32.lt_iff_toInt_lt, e20]
        omega
      rw [if_neg h3]
      exact if_pos (by decide)
  · refine ⟨1, by omega, by omega, ?_, Or.inl ⟨h1, rfl⟩⟩
    rw [Int32.le_iff_toInt_le, e1] at h1
    have h3 : x < nI 20 := by rw [Int32.lt_iff_toInt_lt, e20]; omega
    have h4 : ¬ nI 1 < x := by rw [Int32.lt_iff_toInt_lt, e1]; omega
    rw [if_pos h3, if_neg h4]
/-- the Statement's premise, part by part -/
abbrev fG : List Cond := flatC (Jvm.Cond.and given_1 narrow_1)
theorem fG_R : ∀ j, j < 8 → fG[7 + j]? = some (Cond.eq (.elem (.static RX1 "ROOTS" "[I") (.int (Int32.ofNat j))) (.int (shR j))) := by decide +kernel
theorem fG_K : ∀ j, j < 64 → fG[18 + j]? = some (Cond.eq (.elem (.static RX1 "K" "[I") (.int (Int32.ofNat j))) (.int (shK j))) := by decide +kernel
theorem fG_5 : (Cond.arrayOf (.static RX1 "ROOTS" "[I") .int) ∈ fG := List.mem_of_getElem? (i := 5) (by decide +kernel)
theorem fG_6 : (Cond.eq (.length (.static RX1 "ROOTS" "[I")) (.int (Int32.ofNat 8))) ∈ fG := List.mem_of_getElem? (i := 6) (by decide +kernel)
theorem fG_16 : (Cond.arrayOf (.static RX1 "K" "[I") .int) ∈ fG := List.mem_of_getElem? (i := 16) (by decide +kernel)
theorem fG_17 : (Cond.eq (.length (.static RX1 "K" "[I")) (.int (Int32.ofNat 64))) ∈ fG := List.mem_of_getElem? (i := 17) (by decide +kernel)
theorem fG_82 : (Cond.isRef (.static Bundle.tN "UNASSIGNED_STACK" Bundle.steD)) ∈ fG := List.mem_of_getElem? (i := 82) (by decide +kernel)
theorem fG_83 : (Cond.isRef (.static Bundle.tN "SUPPRESSED_SENTINEL" Bundle.listD)) ∈ fG := List.mem_of_getElem? (i := 83) (by decide +kernel)
theorem fG_91 : (Cond.exactly (.string RX5 91) "java/lang/String") ∈ fG := List.mem_of_getElem? (i := 91) (by decide +kernel)
theorem fT_F : ∀ q ∈ xNF, Cond.fieldLinkNest RX5 q.1 RX0 q.2.1 q.2.2 RX5 ∈ lw_tbl := by
  unfold xNF
  exact List.forall_mem_cons.mpr ⟨List.mem_of_getElem? (i := 103) (by decide +kernel), List.forall_mem_cons.mpr ⟨List.mem_of_getElem? (i := 105) (by decide +kernel), List.forall_mem_cons.mpr ⟨List.mem_of_getElem? (i := 106) (by decide +kernel), List.forall_mem_cons.mpr ⟨List.mem_of_getElem? (i := 107) (by decide +kernel), List.forall_mem_cons.mpr ⟨List.mem_of_getElem? (i := 109) (by decide +kernel), List.forall_mem_cons.mpr ⟨List.mem_of_getElem? (i := 111) (by decide +kernel), List.forall_mem_cons.mpr ⟨List.mem_of_getElem? (i := 113) (by decide +kernel), fun _ h => absurd h List.not_mem_nil⟩⟩⟩⟩⟩⟩⟩
theorem fT_M : ∀ q ∈ xNM, Cond.methodLinkNest q.1 q.2.1 q.2.2 RX5 ∈ lw_tbl := by
  unfold xNM
  exact List.forall_mem_cons.mpr ⟨List.mem_of_getElem? (i := 54) (by decide +kernel), List.forall_mem_cons.mpr ⟨List.mem_of_getElem? (i := 82) (by decide +kernel), List.forall_mem_cons.mpr ⟨List.mem_of_getElem? (i := 96) (by decide +kernel), List.forall_mem_cons.mpr ⟨List.mem_of_getElem? (i := 101) (by decide +kernel), List.forall_mem_cons.mpr ⟨List.mem_of_getElem? (i := 133) (by decide +kernel), List.forall_mem_cons.mpr ⟨List.mem_of_getElem? (i := 138) (by decide +kernel), List.forall_mem_cons.mpr ⟨List.mem_of_getElem? (i := 140) (by decide +kernel), fun _ h => absurd h List.not_mem_nil⟩⟩⟩⟩⟩⟩⟩
theorem fT_W : ∀ w ∈ xW, w ∈ lw_tbl := by
  unfold xW
  exact List.forall_mem_cons.mpr ⟨List.mem_of_getElem? (i := 445) (by decide +kernel), List.forall_mem_cons.mpr ⟨List.mem_of_getElem? (i := 447) (by decide +kernel), List.forall_mem_cons.mpr ⟨List.mem_of_getElem? (i := 449) (by decide +kernel), List.forall_mem_cons.mpr ⟨List.mem_of_getElem? (i := 451) (by decide +kernel), List.forall_mem_cons.mpr ⟨List.mem_of_getElem? (i := 453) (by decide +kernel), fun _ h => absurd h List.not_mem_nil⟩⟩⟩⟩⟩
theorem fT_ini : (.initialized RX1 : Cond) ∈ lw_tbl := List.mem_of_getElem? (i := 27) (by decide +kernel)
theorem fT_sR : (.laysStatic RX1 "ROOTS" "[I" : Cond) ∈ lw_tbl := List.mem_of_getElem? (i := 223) (by decide +kernel)
theorem fT_sK : (.laysStatic RX1 "K" "[I" : Cond) ∈ lw_tbl := List.mem_of_getElem? (i := 253) (by decide +kernel)
theorem fT_sU : (.laysStatic Bundle.tN "UNASSIGNED_STACK" Bundle.steD : Cond) ∈ lw_tbl := List.mem_of_getElem? (i := 472) (by decide +kernel)
theorem fT_sS : (.laysStatic Bundle.tN "SUPPRESSED_SENTINEL" Bundle.listD : Cond) ∈ lw_tbl := List.mem_of_getElem? (i := 474) (by decide +kernel)
theorem fT_str : (.stringRef RX5 91 xTx : Cond) ∈ lw_tbl := List.mem_of_getElem? (i := 484) (by decide +kernel)
theorem fT_ai : (.arrayClass .int : Cond) ∈ lw_tbl := List.mem_of_getElem? (i := 65) (by decide +kernel)
theorem fT_az : (.arrayClass .boolean : Cond) ∈ lw_tbl := List.mem_of_getElem? (i := 205) (by decide +kernel)
theorem fT_ab : (.arrayClass .byte : Cond) ∈ lw_tbl := List.mem_of_getElem? (i := 513) (by decide +kernel)
theorem fT_ao : (.arrayOver (.object RX0) : Cond) ∈ lw_tbl := List.mem_of_getElem? (i := 94) (by decide +kernel)
theorem fT_aa : (.arrayOver (.array .int) : Cond) ∈ lw_tbl := List.mem_of_getElem? (i := 142) (by decide +kernel)
theorem fT_n1 : (.instantiable RX0 8 : Cond) ∈ lw_tbl := List.mem_of_getElem? (i := 95) (by decide +kernel)
theorem fT_n2 : (.instantiable RX1 2 : Cond) ∈ lw_tbl := List.mem_of_getElem? (i := 53) (by decide +kernel)
theorem fT_n3 : (.instantiable RX2 2 : Cond) ∈ lw_tbl := List.mem_of_getElem? (i := 81) (by decide +kernel)
theorem fT_n4 : (.instantiable RX3 7 : Cond) ∈ lw_tbl := List.mem_of_getElem? (i := 132) (by decide +kernel)
theorem fT_n5 : (.instantiable RX4 1 : Cond) ∈ lw_tbl := List.mem_of_getElem? (i := 67) (by decide +kernel)
section ST
variable {s : State} {b : Nat}
theorem st_R (hgv : (Jvm.Cond.and given_1 narrow_1).before #[Value.ref b] s = true) : ∃ t : Nat, (Term.static RX1 "ROOTS" "[I").eval #[Value.ref b] s none [] s = some (.ref t) ∧ va_T .int t 8 (fun j => .int (shR j)) (xA s.heap.size) s s.heap := by
  have hs := flat_of_before _ hgv
  exact va_Tof (tm := .static RX1 "ROOTS" "[I") (N := 8) (by decide) (hs _ fG_5) (va_eqt (hs _ fG_6)) (fun j hj => va_eqt (hs _ (List.mem_of_getElem? (fG_R j hj)))) (fun a h => Nat.not_le.mpr h)
theorem st_C (hgv : (Jvm.Cond.and given_1 narrow_1).before #[Value.ref b] s = true) : ∃ t : Nat, (Term.static RX1 "K" "[I").eval #[Value.ref b] s none [] s = some (.ref t) ∧ va_T .int t 64 (fun j => .int (shK j)) (xA s.heap.size) s s.heap := by
  have hs := flat_of_before _ hgv
  exact va_Tof (tm := .static RX1 "K" "[I") (N := 64) (by decide) (hs _ fG_16) (va_eqt (hs _ fG_17)) (fun j hj => va_eqt (hs _ (List.mem_of_getElem? (fG_K j hj)))) (fun a h => Nat.not_le.mpr h)
theorem st_E (hts : ∀ w ∈ lw_tbl, w.before #[Value.ref b] s = true) (hgv : (Jvm.Cond.and given_1 narrow_1).before #[Value.ref b] s = true) : ∃ tR tK : Nat, xE tR tK s.heap.size s := by
  obtain ⟨tR, e1, h1⟩ := st_R hgv
  obtain ⟨tK, e2, h2⟩ := st_C hgv
  exact ⟨tR, tK, fun q hq => va_Nw.of rfl (hts _ (fT_F q hq)), fun q hq => va_Nw.of rfl (hts _ (fT_M q hq)), ⟨va_Zref (hts _ fT_sR) (hts _ fT_ini) e1 (fun a h => Nat.not_le.mpr h), h1⟩, va_Zref (hts _ fT_sK) (hts _ fT_ini) e2 (fun a h => Nat.not_le.mpr h), h2⟩
theorem st_Z (hts : ∀ w ∈ lw_tbl, w.before #[Value.ref b] s = true) (hgv : (Jvm.Cond.and given_1 narrow_1).before #[Value.ref b] s = true) : ∃ sa : Nat, xZ s.heap.size sa s := by
  have hs := flat_of_before _ hgv
  obtain ⟨a, c, cell, k, q1, -⟩ := Cond.exactly_spec (args := #[Value.ref b]) (first := s) (o := none) (s := s) (idx := []) (t := .string RX5 91) (cls := "java/lang/String") (hs _ fG_91)
  exact ⟨a, ⟨zL.of (hts _ fT_sU) (hs _ fG_82) (Nat.le_refl _), zL.of (hts _ fT_sS) (hs _ fG_83) (Nat.le_refl _)⟩, vk_R.of (hts _ fT_str) q1, fun w hw => va_Nw.of (xW_tab w hw) (hts w (fT_W w hw))⟩
theorem st_cls (hts : ∀ w ∈ lw_tbl, w.before #[Value.ref b] s = true) : ∃ D : va_G, ∀ (c : Nat) (q : vw_C), vwCl[c]? = some q → u_Kn s q.1 q.2.1 q.2.2 (D.1 c) (D.2 c) := by
  obtain ⟨a0, i0, k0⟩ := u_known (C := RJx00060) (T := TJx00060) (N := 6) (n := 6) hts in_wsJx000600 (hts _ wm_560)
  obtain ⟨a1, i1, k1⟩ := u_known (C := RX0) (T := TX0) (N := 8) (n := 8) hts in_wsX00 (hts _ fT_n1)
  obtain ⟨a2, i2, k2⟩ := u_known (C := RX1) (T := TX1) (N := 2) (n := 2) hts in_wsX10 (hts _ fT_n2)
  obtain ⟨a3, i3, k3⟩ := u_known (C := RX2) (T := TX2) (N := 2) (n := 2) hts in_wsX20 (hts _ fT_n3)
  obtain ⟨a4, i4, k4⟩ := u_known (C := RX3) (T := TX3) (N := 7) (n := 7) hts in_wsX30 (hts _ fT_n4)
  obtain ⟨a5, i5, k5⟩ := u_known (C := RX4) (T := TX4) (N := 1) (n := 1) hts in_wsX40 (hts _ fT_n5)
  obtain ⟨a6, i6, k6⟩ := u_known (C := RX5) (T := TX5) (N := 13) (n := 13) hts in_wsX50 (hts _ wm_563)
  obtain ⟨a7, i7, k7⟩ := u_known (C := RX6) (T := TX6) (N := 32) (n := 32) hts in_wsX60 (hts _ wm_565)
  refine ⟨(fun c => match c with | 0 => a0 | 1 => a1 | 2 => a2 | 3 => a3 | 4 => a4 | 5 => a5 | 6 => a6 | _ => a7, fun c => match c with | 0 => i0 | 1 => i1 | 2 => i2 | 3 => i3 | 4 => i4 | 5 => i5 | 6 => i6 | _ => i7), ?_⟩
  intro c q hq
  match c, hq with
  | 0, hq => cases hq; exact k0
  | 1, hq => cases hq; exact k1
  | 2, hq => cases hq; exact k2
  | 3, hq => cases hq; exact k3
  | 4, hq => cases hq; exact k4
  | 5, hq => cases hq; exact k5
  | 6, hq => cases hq; exact k6
  | 7, hq => cases hq; exact k7
  | k + 8, hq => exact absurd (List.getElem?_eq_some_iff.mp hq).1 (by simp)
theorem arr_p {args : Array Value} {ty : FieldType} (hp : ∀ C, ty ≠ .object C) (h : (Cond.arrayClass ty).before args s = true) : ∃ c : ClassId, ArrOfT s c ty ∧ va_RA s c ty := by
  obtain ⟨c, k, comp, h1, h2, h3⟩ := Cond.arrayClass_spec h
  refine ⟨c, fun N z => ⟨(fun _ h => by cases h), k, h2, comp, h3⟩, ?_⟩
  cases ty with
  | object C => exact absurd rfl (hp C)
  | _ => exact h1
theorem arr_a {args : Array Value} {t : FieldType} (h : (Cond.arrayOver (.array t)).before args s = true) : ∃ (comp c : ClassId) (k : Class), s.vm.findClass (FieldType.array t).toString = some comp ∧ s.vm.classes[c]? = some k ∧ k.kind = .array comp (.array t) ∧ s.vm.findClass ("[" ++ (FieldType.array t).toString) = some c := by
  simp only [Cond.before, Cond.holds, Cond.value, beq_iff_eq] at h
  cases hc : s.vm.findClass (FieldType.array t).toString with
  | none =>
    rw [hc] at h
    simp at h
  | some comp =>
    simp only [hc, Option.bind_some, Option.bind_eq_some_iff, Option.map_eq_some_iff] at h
    obtain ⟨c, hi, k, hk, hb⟩ := h
    obtain ⟨hlt, hp, -⟩ := Array.findIdx?_eq_some_iff_getElem.mp hi
    have hkk : s.vm.classes[c] = k := (Array.getElem?_eq_some_iff.mp hk).2
    rw [hkk] at hp
    cases hkind : k.kind with
    | array component ty =>
      rw [hkind] at hb hp
      simp at hb hp
      exact ⟨comp, c, k, rfl, hk, by rw [hkind, hp, hb.1], hb.2⟩
    | _ => rw [hkind] at hb; simp at hb
theorem st_K (hts : ∀ w ∈ lw_tbl, w.before #[Value.ref b] s = true) : ∃ (D : va_G) (ca : Nat → ClassId), va_K D vwCl (xT ca) s ∧ xO ca s := by
  obtain ⟨D, hD⟩ := st_cls hts
  obtain ⟨c0, a0, r0⟩ := arr_p (fun C h => by cases h) (hts _ fT_ai)
  obtain ⟨c1, a1, r1⟩ := arr_p (fun C h => by cases h) (hts _ fT_ab)
  obtain ⟨c2, a2, r2⟩ := arr_p (fun C h => by cases h) (hts _ fT_az)
  obtain ⟨c5, a5, r5⟩ := arr_p (fun C h => by cases h) (hts _ wm_566)
  obtain ⟨comp, c4, k4, f1, f2, f3, f4⟩ := arr_a (hts _ fT_aa)
  obtain ⟨comp3, c3, k3, g1, -, g2, g3, g4⟩ := Cond.arrayOver_spec (hts _ fT_ao)
  have e0 : some c0 = some comp := (show s.vm.findClass "[I" = some c0 from r0).symm.trans f1
  cases e0
  refine ⟨D, fun i => match i with | 0 => c0 | 1 => c1 | 2 => c2 | 3 => c3 | 4 => c4 | _ => c5, ⟨hD, ?_⟩, va_AO.of (hts _ fT_ao), k4, f2, f3⟩
  intro k q hk
  match k, hk with
  | 0, hk => cases hk; exact ⟨a0, r0⟩
  | 1, hk => cases hk; exact ⟨a1, r1⟩
  | 2, hk => cases hk; exact ⟨a2, r2⟩
  | 3, hk => cases hk; exact ⟨fun N z => ⟨(fun _ h => by cases h), k3, g2, comp3, g3⟩, k3, comp3, g2, g3, g1, g4⟩
  | 4, hk => cases hk; exact ⟨fun N z => ⟨(fun _ h => by cases h), k4, f2, c0, f3⟩, f4⟩
  | 5, hk => cases hk; exact ⟨a5, r5⟩
  | k + 6, hk => exact absurd (List.getElem?_eq_some_iff.mp hk).1 (by simp)
end ST
