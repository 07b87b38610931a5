/-! ===== more moves: a check, a day, a file, a copy, rows spoilt ===== -/
theorem va_upC {α : Type} (f : Nat → α) {a b : Nat} (x y : α) (h : a ≠ b) : va_up (va_up f a x) b y = va_up (va_up f b y) a x := by
  funext j
  by_cases h1 : j = a
  · rw [h1, va_up_self, va_up_ne _ _ h, va_up_self]
  · rw [va_up_ne (va_up f b y) _ h1]
    by_cases h2 : j = b
    · rw [h2, va_up_self, va_up_self]
    · rw [va_up_ne _ _ h2, va_up_ne _ _ h2, va_up_ne _ _ h1]
theorem fitG_row (n : Nat → Nat) (g : Nat → Nat → Int32) (i : Nat) (y : Int32) : fitG n g i y = rowG n (va_up g 9 (upd (g 9) i y)) (nI 1) (nI i) y := by
  have e : (fun i8 => va_up g 9 (upd (g 9) i y) (1000 + i8)) = fun i8 => g (1000 + i8) := by
    funext q
    exact va_up_ne _ _ (by omega)
  unfold fitG rowG
  rw [e, va_up_ne _ _ (by decide), va_up_ne _ _ (by decide), va_up_ne _ _ (by decide)]
  rw [va_upC g _ _ (by decide : 9 ≠ 4), va_upC (va_up g 4 _) _ _ (by decide : 9 ≠ 5), va_upC (va_up (va_up g 4 _) 5 _) _ _ (by decide : 9 ≠ 6)]
theorem mfitG_row (n : Nat → Nat) (g : Nat → Nat → Int32) (i : Nat) (y : Int32) : mfitG n g i y = mrowG n (va_up g 5 (upd (g 5) i y)) (nI 1) (nI i) y := by
  unfold mfitG mrowG
  rw [va_up_ne _ _ (by decide : 11 ≠ 5), va_up_ne _ _ (by decide : 12 ≠ 5), va_up_ne _ _ (by decide : 14 ≠ 5), va_up_ne _ _ (by decide : 15 ≠ 5)]
theorem m_chk {n n' : Nat → Nat} {g g' : Nat → Nat → Int32} (h : Rel n g n' g') {i : Nat} (hi : i < n 2) (y : Int32) : Rel (appN n) (chkG n g i y) (mchkN n') (mchkG n' g' i y) ∧ fitI n g i = mfitI g' i := by
  have h2 : n 2 ≤ 20 := h.1.2.2.2.2.2.2.2.2.2.1
  have e5 : n 5 = n' 4 := h.1.2.2.2.2.2.1
  have h5 : n 5 ≤ 200 := h.1.2.2.2.2.2.2.2.2.2.2.2.2
  have hf0 : fitsX n g i i ↔ mFit g' i i (zN g' i) := by
    rw [zN_rel h.2.1 (by omega)]
    exact fitRel h (by omega) hi
  by_cases hf : fitsX n g i i
  · have hf' := hf0.mp hf
    rcases Nat.lt_or_ge (n 5) 200 with h6 | h6
    · obtain ⟨a1, a2, a3⟩ := chkG_fit (y := y) hf h6
      obtain ⟨b1, b2, b3⟩ := mchkG_fit (n := n') (y := y) hf' (by omega)
      rw [a1, a2, a3, b1, b2, b3, fitG_row, mfitG_row]
      exact ⟨m_row (m_mark h y) h6 _ _ _, rfl⟩
    · obtain ⟨a1, a2, a3⟩ := chkG_fitF (y := y) hf (by omega : n 5 = 200)
      obtain ⟨b1, b2, b3⟩ := mchkG_fitF (n := n') (y := y) hf' (by omega)
      rw [a1, a2, a3, b1, b2, b3]
      exact ⟨m_mark h y, rfl⟩
  · have hf' : ¬ mFit g' i i (zN g' i) := fun q => hf (hf0.mpr q)
    rcases Nat.lt_or_ge (n 5) 200 with h6 | h6
    · obtain ⟨a1, a2, a3⟩ := chkG_no (y := y) hf h6
      obtain ⟨b1, b2, b3⟩ := mchkG_no (n := n') (y := y) hf' (by omega)
      rw [a1, a2, a3, b1, b2, b3]
      exact ⟨m_row h h6 _ _ _, rfl⟩
    · obtain ⟨a1, a2, a3⟩ := chkG_noF (y := y) hf (by omega : n 5 = 200)
      obtain ⟨b1, b2, b3⟩ := mchkG_noF (n := n') (y := y) hf' (by omega)
      rw [a1, a2, a3, b1, b2, b3]
      exact ⟨h, rfl⟩
theorem m_tf {n n' : Nat → Nat} {g g' : Nat → Nat → Int32} (h : Rel n g n' g') (x : Int32) : Rel n (va_up g 2 (upd (g 2) (n 3) x)) n' (va_up g' 9 (upd (g' 9) (n' 3) x)) := by
  obtain ⟨hN, hZ, hC, hB, hL, hW, hS, hT, hR, h13⟩ := h
  have hT1 : RelT n (va_up g 2 (upd (g 2) (n 3) x)) (va_up g' 9 (upd (g' 9) (n' 3) x)) := by
    intro k hk
    show upd (g 2) (n 3) x k = upd (g' 9) (n' 3) x k ∧ g 3 k = g' 10 k ∧ (g 3 k = 0 ∨ g 3 k = 1)
    rw [← hN.2.2.2.1, pk_un (by omega), pk_un (by omega)]
    exact hT k hk
  exact ⟨hN, (hZ.c (fun i hi => by first | rfl | simp (disch := omega) only [va_up_ne, va_up_self]) (by first | rfl | simp (disch := omega) only [va_up_ne, va_up_self])), (hC.c (by first | rfl | simp (disch := omega) only [va_up_ne, va_up_self]) (by first | rfl | simp (disch := omega) only [va_up_ne, va_up_self]) (by first | rfl | simp (disch := omega) only [va_up_ne, va_up_self])), (hB.c (fun i hi => by first | rfl | simp (disch := omega) only [va_up_ne, va_up_self]) (fun i hi => by first | rfl | simp (disch := omega) only [va_up_ne, va_up_self]) (by first | rfl | simp (disch := omega) only [va_up_ne, va_up_self])), (hL.c (by first | rfl | simp (disch := omega) only [va_up_ne, va_up_self]) (by first | rfl | simp (disch := omega) only [va_up_ne, va_up_self]) (by first | rfl | simp (disch := omega) only [va_up_ne, va_up_self])), (hW.c hN.2.2.2.2.2.2.2.2.2.1 (by first | rfl | simp (disch := omega) only [va_up_ne, va_up_self]) (fun i hi => by first | rfl | simp (disch := omega) only [va_up_ne, va_up_self]) (by first | rfl | simp (disch := omega) only [va_up_ne, va_up_self]) (by first | rfl | simp (disch := omega) only [va_up_ne, va_up_self]) (by first | rfl | simp (disch := omega) only [va_up_ne, va_up_self]) (by first | rfl | simp (disch := omega) only [va_up_ne, va_up_self])), (hS.c (by first | rfl | simp (disch := omega) only [va_up_ne, va_up_self]) (by first | rfl | simp (disch := omega) only [va_up_ne, va_up_self]) (by first | rfl | simp (disch := omega) only [va_up_ne, va_up_self]) (by first | rfl | simp (disch := omega) only [va_up_ne, va_up_self]) (by first | rfl | simp (disch := omega) only [va_up_ne, va_up_self]) (by first | rfl | simp (disch := omega) only [va_up_ne, va_up_self]) (by first | rfl | simp (disch := omega) only [va_up_ne, va_up_self]) (by first | rfl | simp (disch := omega) only [va_up_ne, va_up_self])), hT1, (hR.c hN.2.2.2.2.2.2.2.2.2.2.2.2 (by first | rfl | simp (disch := omega) only [va_up_ne, va_up_self]) (by first | rfl | simp (disch := omega) only [va_up_ne, va_up_self]) (by first | rfl | simp (disch := omega) only [va_up_ne, va_up_self]) (by first | rfl | simp (disch := omega) only [va_up_ne, va_up_self]) (fun i hi => by first | rfl | simp (disch := omega) only [va_up_ne, va_up_self]) (by first | rfl | simp (disch := omega) only [va_up_ne, va_up_self]) (by first | rfl | simp (disch := omega) only [va_up_ne, va_up_self]) (by first | rfl | simp (disch := omega) only [va_up_ne, va_up_self]) (by first | rfl | simp (disch := omega) only [va_up_ne, va_up_self])), (by first | exact h13 | (simp (disch := omega) only [va_up_ne, va_up_self]; exact h13))⟩
theorem m_tell {n n' : Nat → Nat} {g g' : Nat → Nat → Int32} (h : Rel n g n' g') {j : Nat} (h3 : n 3 < 20) (x nd : Int32) (hx : x = 0 ∨ x = 1) (he : g 2 (n 3) = g' 9 (n 3)) (hd : schd (g 11 j) nd) : Rel (va_up n 3 (n 3 + 1)) (va_up (va_up g 3 (upd (g 3) (n 3) x)) 10 (upd (g 10) j nd)) (va_up n' 3 (n' 3 + 1)) (va_up (va_up g' 7 (upd (g' 7) j nd)) 10 (upd (g' 10) (n' 3) x)) := by
  obtain ⟨hN, hZ, hC, hB, hL, hW, hS, hT, hR, h13⟩ := h
  have hT1 : RelT (va_up n 3 (n 3 + 1)) (va_up (va_up g 3 (upd (g 3) (n 3) x)) 10 (upd (g 10) j nd)) (va_up (va_up g' 7 (upd (g' 7) j nd)) 10 (upd (g' 10) (n' 3) x)) := by
    intro k hk
    rw [va_up_self] at hk
    show g 2 k = g' 9 k ∧ upd (g 3) (n 3) x k = upd (g' 10) (n' 3) x k ∧ (upd (g 3) (n 3) x k = 0 ∨ upd (g 3) (n 3) x k = 1)
    rw [← hN.2.2.2.1]
    by_cases e : k = n 3
    · rw [e, pk_us, pk_us]
      exact ⟨he, rfl, hx⟩
    · rw [pk_un e, pk_un e]
      exact hT k (by omega)
  have hS1 : RelS (va_up (va_up g 3 (upd (g 3) (n 3) x)) 10 (upd (g 10) j nd)) (va_up (va_up g' 7 (upd (g' 7) j nd)) 10 (upd (g' 10) (n' 3) x)) := by
    intro q hq
    obtain ⟨a1, a2, a3, a4, a5⟩ := hS q hq
    show g 9 q = g' 5 q ∧ upd (g 10) j nd q = upd (g' 7) j nd q ∧ g 11 q = g' 8 q ∧ g 12 q = g' 6 q ∧ schd (g 11 q) (upd (g 10) j nd q)
    by_cases e : q = j
    · rw [e] at a1 a3 a4 ⊢
      rw [pk_us, pk_us]
      exact ⟨a1, rfl, a3, a4, hd⟩
    · rw [pk_un e, pk_un e]
      exact ⟨a1, a2, a3, a4, a5⟩
  exact ⟨(by unfold RelN at *; simp [va_up] <;> omega), (hZ.c (fun i hi => by first | rfl | simp (disch := omega) only [va_up_ne, va_up_self]) (by first | rfl | simp (disch := omega) only [va_up_ne, va_up_self])), (hC.c (by first | rfl | simp (disch := omega) only [va_up_ne, va_up_self]) (by first | rfl | simp (disch := omega) only [va_up_ne, va_up_self]) (by first | rfl | simp (disch := omega) only [va_up_ne, va_up_self])), (hB.c (fun i hi => by first | rfl | simp (disch := omega) only [va_up_ne, va_up_self]) (fun i hi => by first | rfl | simp (disch := omega) only [va_up_ne, va_up_self]) (by first | rfl | simp (disch := omega) only [va_up_ne, va_up_self])), (hL.c (by first | rfl | simp (disch := omega) only [va_up_ne, va_up_self]) (by first | rfl | simp (disch := omega) only [va_up_ne, va_up_self]) (by first | rfl | simp (disch := omega) only [va_up_ne, va_up_self])), (hW.c hN.2.2.2.2.2.2.2.2.2.1 (by first | rfl | simp (disch := omega) only [va_up_ne, va_up_self]) (fun i hi => by first | rfl | simp (disch := omega) only [va_up_ne, va_up_self]) (by first | rfl | simp (disch := omega) only [va_up_ne, va_up_self]) (by first | rfl | simp (disch := omega) only [va_up_ne, va_up_self]) (by first | rfl | simp (disch := omega) only [va_up_ne, va_up_self]) (by first | rfl | simp (disch := omega) only [va_up_ne, va_up_self])), hS1, hT1, (hR.c hN.2.2.2.2.2.2.2.2.2.2.2.2 (by first | rfl | simp (disch := omega) only [va_up_ne, va_up_self]) (by first | rfl | simp (disch := omega) only [va_up_ne, va_up_self]) (by first | rfl | simp (disch := omega) only [va_up_ne, va_up_self]) (by first | rfl | simp (disch := omega) only [va_up_ne, va_up_self]) (fun i hi => by first | rfl | simp (disch := omega) only [va_up_ne, va_up_self]) (by first | rfl | simp (disch := omega) only [va_up_ne, va_up_self]) (by first | rfl | simp (disch := omega) only [va_up_ne, va_up_self]) (by first | rfl | simp (disch := omega) only [va_up_ne, va_up_self]) (by first | rfl | simp (disch := omega) only [va_up_ne, va_up_self])), (by first | exact h13 | (simp (disch := omega) only [va_up_ne, va_up_self]; exact h13))⟩
theorem m_day {n n' : Nat → Nat} {g g' : Nat → Nat → Int32} (h : Rel n g n' g') (y : Int32) : Rel (va_up n 3 0) (va_up g 13 (upd (g 13) 0 y)) (va_up n' 3 0) (va_up g' 13 (upd (g' 13) 0 y)) := by
  obtain ⟨hN, hZ, hC, hB, hL, hW, hS, hT, hR, h13⟩ := h
  have hT1 : RelT (va_up n 3 0) (va_up g 13 (upd (g 13) 0 y)) (va_up g' 13 (upd (g' 13) 0 y)) := fun k hk => by
    rw [va_up_self] at hk
    omega
  exact ⟨(by unfold RelN at *; simp [va_up] <;> omega), (hZ.c (fun i hi => by first | rfl | simp (disch := omega) only [va_up_ne, va_up_self]) (by first | rfl | simp (disch := omega) only [va_up_ne, va_up_self])), (hC.c (by first | rfl | simp (disch := omega) only [va_up_ne, va_up_self]) (by first | rfl | simp (disch := omega) only [va_up_ne, va_up_self]) (by first | rfl | simp (disch := omega) only [va_up_ne, va_up_self])), (hB.c (fun i hi => by first | rfl | simp (disch := omega) only [va_up_ne, va_up_self]) (fun i hi => by first | rfl | simp (disch := omega) only [va_up_ne, va_up_self]) (by first | rfl | simp (disch := omega) only [va_up_ne, va_up_self])), (hL.c (by first | rfl | simp (disch := omega) only [va_up_ne, va_up_self]) (by first | rfl | simp (disch := omega) only [va_up_ne, va_up_self]) (by first | rfl | simp (disch := omega) only [va_up_ne, va_up_self])), (hW.c hN.2.2.2.2.2.2.2.2.2.1 (by first | rfl | simp (disch := omega) only [va_up_ne, va_up_self]) (fun i hi => by first | rfl | simp (disch := omega) only [va_up_ne, va_up_self]) (by first | rfl | simp (disch := omega) only [va_up_ne, va_up_self]) (by first | rfl | simp (disch := omega) only [va_up_ne, va_up_self]) (by first | rfl | simp (disch := omega) only [va_up_ne, va_up_self]) (by first | rfl | simp (disch := omega) only [va_up_ne, va_up_self])), (hS.c (by first | rfl | simp (disch := omega) only [va_up_ne, va_up_self]) (by first | rfl | simp (disch := omega) only [va_up_ne, va_up_self]) (by first | rfl | simp (disch := omega) only [va_up_ne, va_up_self]) (by first | rfl | simp (disch := omega) only [va_up_ne, va_up_self]) (by first | rfl | simp (disch := omega) only [va_up_ne, va_up_self]) (by first | rfl | simp (disch := omega) only [va_up_ne, va_up_self]) (by first | rfl | simp (disch := omega) only [va_up_ne, va_up_self]) (by first | rfl | simp (disch := omega) only [va_up_ne, va_up_self])), hT1, (hR.c hN.2.2.2.2.2.2.2.2.2.2.2.2 (by first | rfl | simp (disch := omega) only [va_up_ne, va_up_self]) (by first | rfl | simp (disch := omega) only [va_up_ne, va_up_self]) (by first | rfl | simp (disch := omega) only [va_up_ne, va_up_self]) (by first | rfl | simp (disch := omega) only [va_up_ne, va_up_self]) (fun i hi => by first | rfl | simp (disch := omega) only [va_up_ne, va_up_self]) (by first | rfl | simp (disch := omega) only [va_up_ne, va_up_self]) (by first | rfl | simp (disch := omega) only [va_up_ne, va_up_self]) (by first | rfl | simp (disch := omega) only [va_up_ne, va_up_self]) (by first | rfl | simp (disch := omega) only [va_up_ne, va_up_self])), (by rw [va_up_self, va_up_self, pk_us, pk_us])⟩
theorem sch_pos {s d : Int32} (h : schd s d) : s ≤ 0 ↔ d < 0 := by
  rcases h with ⟨a, b⟩ | ⟨a, b, h1, h2, h3, h4, h5⟩
  · rw [a, b]
    exact ⟨fun _ => by decide, fun _ => by decide⟩
  · rw [h4, h5]
    exact ⟨fun q => absurd q (nI_nle (by omega) (by omega)), fun q => absurd q (nI_pos (by omega))⟩
theorem sch_next {s d : Int32} {y : Nat} (hy : y ≤ 1000000) (h : schd s d) (h1 : ¬ s ≤ 0) (h2 : ¬ nI y < d) : schd s (d + ((nI y - d) / s + nI 1) * s) := by
  rcases h with ⟨a, b⟩ | ⟨a, b, e1, e2, e3, e4, e5⟩
  · exact absurd (by rw [a]; exact Int32.le_refl 0) h1
  · refine Or.inr ⟨a, b + ((y - b) / a + 1) * a, e1, e2, ?_, e4, ?_⟩
    · have hb : b ≤ y := by
        rw [e5] at h2
        exact Nat.le_of_not_lt (fun q => h2 (nI_lt q (by omega)))
      have h3 : (y - b) / a * a ≤ y - b := Nat.div_mul_le_self _ _
      rw [Nat.add_mul, Nat.one_mul]
      omega
    · have hb : b ≤ y := by
        rw [e5] at h2
        exact Nat.le_of_not_lt (fun q => h2 (nI_lt q (by omega)))
      rw [e4, e5, pk_sub hb, pk_div (by omega) (by omega) (by omega), nI_add, pk_mul, nI_add]
theorem lw_rel {g g' : Nat → Nat → Int32} (hS : RelS g g') (y : Int32) : ∀ i, i ≤ 20 → lwF g y i = lwM (g' 7) y i := by
  intro i
  induction i with
  | zero => intro _; rfl
  | succ i ih =>
    intro hi
    have h0 := ih (by omega)
    obtain ⟨a1, a2, a3, a4, a5⟩ := hS i (by omega)
    have hp := sch_pos a5
    rw [a2] at hp
    show (match lwF g y i with | none => (if g 11 i ≤ 0 ∨ y < g 10 i then none else some i) | some j => (if g 11 i ≤ 0 ∨ y < g 10 i ∨ g 10 j ≤ g 10 i then some j else some i)) = (match lwM (g' 7) y i with | none => (if g' 7 i < 0 ∨ y < g' 7 i then none else some i) | some j => (if g' 7 i < 0 ∨ y < g' 7 i ∨ g' 7 j ≤ g' 7 i then some j else some i))
    cases e : lwM (g' 7) y i with
    | none =>
      rw [e] at h0
      rw [h0]
      show (if g 11 i ≤ 0 ∨ y < g 10 i then none else some i) = (if g' 7 i < 0 ∨ y < g' 7 i then none else some i)
      rw [a2]
      by_cases c : g' 7 i < 0 ∨ y < g' 7 i
      · rw [if_pos c, if_pos (c.elim (fun q => Or.inl (hp.mpr q)) Or.inr)]
      · rw [if_neg c, if_neg (fun q => c (q.elim (fun q => Or.inl (hp.mp q)) Or.inr))]
    | some j =>
      rw [e] at h0
      rw [h0]
      show (if g 11 i ≤ 0 ∨ y < g 10 i ∨ g 10 j ≤ g 10 i then some j else some i) = (if g' 7 i < 0 ∨ y < g' 7 i ∨ g' 7 j ≤ g' 7 i then some j else some i)
      have hj := lwM_lt _ _ _ _ e
      rw [a2, (hS j (by omega)).2.1]
      by_cases c : g' 7 i < 0 ∨ y < g' 7 i ∨ g' 7 j ≤ g' 7 i
      · rw [if_pos c, if_pos (c.elim (fun q => Or.inl (hp.mpr q)) Or.inr)]
      · rw [if_neg c, if_neg (fun q => c (q.elim (fun q => Or.inl (hp.mp q)) Or.inr))]
theorem cw_rel {g g' : Nat → Nat → Int32} (hS : RelS g g') (y : Int32) : ∀ i, i ≤ 20 → cwF g y i = cwM (g' 7) y i := by
  intro i
  induction i with
  | zero => intro _; rfl
  | succ i ih =>
    intro hi
    have h0 := ih (by omega)
    obtain ⟨a1, a2, a3, a4, a5⟩ := hS i (by omega)
    have hp := sch_pos a5
    rw [a2] at hp
    show (if g 11 i ≤ 0 ∨ y < g 10 i then cwF g y i else cwF g y i + 1) = (if g' 7 i < 0 ∨ y < g' 7 i then cwM (g' 7) y i else cwM (g' 7) y i + 1)
    rw [a2, h0]
    by_cases c : g' 7 i < 0 ∨ y < g' 7 i
    · rw [if_pos c, if_pos (c.elim (fun q => Or.inl (hp.mpr q)) Or.inr)]
    · rw [if_neg c, if_neg (fun q => c (q.elim (fun q => Or.inl (hp.mp q)) Or.inr))]
theorem fitI_01 (n : Nat → Nat) (g : Nat → Nat → Int32) (i : Nat) : fitI n g i = 0 ∨ fitI n g i = 1 := by
  by_cases h : fitsX n g i i
  · exact Or.inr (if_pos h)
  · exact Or.inl (if_neg h)
theorem m_step {n n' : Nat → Nat} {g g' : Nat → Nat → Int32} (h : Rel n g n' g') (h3 : n 3 < 20) {j y : Nat} (hj : j < n 2) (hy : y ≤ 1000000) (hw : waits g (nI y) j) : Rel (dueStep n g (nI y) (n 3) j).1 (dueStep n g (nI y) (n 3) j).2 (mdStep n' g' (nI y) j).1 (mdStep n' g' (nI y) j).2 := by
  have h20 : n 2 ≤ 20 := h.1.2.2.2.2.2.2.2.2.2.1
  have e3 : n 3 = n' 3 := h.1.2.2.2.1
  have h1 : Rel n (va_up g 2 (upd (g 2) (n 3) (nI j))) n' (mdG1 n' g' j) := m_tf h (nI j)
  obtain ⟨h2, hf⟩ := m_chk h1 hj (nI y)
  have c10 : chkG n (va_up g 2 (upd (g 2) (n 3) (nI j))) j (nI y) 10 = g 10 := (chkG_at (by decide) (by decide) (by decide) (by decide) (by decide)).trans rfl
  have c11 : chkG n (va_up g 2 (upd (g 2) (n 3) (nI j))) j (nI y) 11 = g 11 := (chkG_at (by decide) (by decide) (by decide) (by decide) (by decide)).trans rfl
  have c2 : chkG n (va_up g 2 (upd (g 2) (n 3) (nI j))) j (nI y) 2 = upd (g 2) (n 3) (nI j) := (chkG_at (by decide) (by decide) (by decide) (by decide) (by decide)).trans rfl
  have d7 : mchkG n' (mdG1 n' g' j) j (nI y) 7 = g' 7 := (mchkG_at (by decide) (by decide)).trans rfl
  have d8 : mchkG n' (mdG1 n' g' j) j (nI y) 8 = g' 8 := (mchkG_at (by decide) (by decide)).trans rfl
  have d9 : mchkG n' (mdG1 n' g' j) j (nI y) 9 = upd (g' 9) (n' 3) (nI j) := (mchkG_at (by decide) (by decide)).trans rfl
  obtain ⟨a1, a2, a3, a4, a5⟩ := h.2.2.2.2.2.2.1 j (by omega)
  have h4 := m_tell h2 (j := j) (by rw [appN_at (by decide)]; exact h3) (fitI n (va_up g 2 (upd (g 2) (n 3) (nI j))) j) (g 10 j + ((nI y - g 10 j) / g 11 j + nI 1) * g 11 j) (fitI_01 _ _ _) (by rw [appN_at (by decide), c2, d9, ← e3, pk_us, pk_us]) (by rw [c11]; exact sch_next hy a5 hw.1 hw.2)
  unfold dueStep mdStep
  dsimp only
  rw [appN_at (by decide : 3 ≠ 5), mchkN_at (by decide : 3 ≠ 4)] at h4
  rw [c10, c11, d7, d8, mchkN_at (by decide : 3 ≠ 4), ← hf, ← a2, ← a3, Int32.mul_comm (g 11 j)]
  rw [c10, d7] at h4
  exact h4
theorem dueStep_3 {n : Nat → Nat} {g : Nat → Nat → Int32} {y : Int32} {k j : Nat} : (dueStep n g y k j).1 3 = k + 1 := by
  unfold dueStep
  dsimp only
  rw [va_up_self]
theorem m_due {n n' : Nat → Nat} {g g' : Nat → Nat → Int32} (h : Rel n g n' g') {y : Nat} (hy : y ≤ 1000000) : ∀ k, k ≤ n 0 → Rel (dueS n g (nI y) k).1 (dueS n g (nI y) k).2 (mdS n' g' (nI y) k).1 (mdS n' g' (nI y) k).2 ∧ (lwF (dueS n g (nI y) k).2 (nI y) (n 2) = none ∨ (dueS n g (nI y) k).1 3 = k) := by
  intro k
  have e2 : n 2 = n' 2 := h.1.2.2.1
  have h20 : n 2 ≤ 20 := h.1.2.2.2.2.2.2.2.2.2.1
  have h0 : n 0 ≤ 20 := h.1.2.2.2.2.2.2.2.1
  have h5 : n 5 ≤ 200 := h.1.2.2.2.2.2.2.2.2.2.2.2.2
  induction k with
  | zero =>
    intro _
    exact ⟨m_day (m_thr h 0) (nI y), Or.inr rfl⟩
  | succ k ih =>
    intro hk
    obtain ⟨h1, h2⟩ := ih (by omega)
    have hlw := lw_rel h1.2.2.2.2.2.2.1 (nI y) (n 2) h20
    cases e : lwF (dueS n g (nI y) k).2 (nI y) (n 2) with
    | none =>
      rw [e] at hlw
      rw [dueS_none e, mdS_none (by rw [← e2]; exact hlw.symm)]
      exact ⟨h1, Or.inl e⟩
    | some j =>
      rw [e] at hlw
      have h3 : (dueS n g (nI y) k).1 3 = k := h2.resolve_left (by rw [e]; intro q; cases q)
      have f2 := (dueS_facts (g := g) (y := nI y) h5 k).2.1
      rw [dueS_some e, mdS_some (by rw [← e2]; exact hlw.symm)]
      refine ⟨?_, Or.inr dueStep_3⟩
      have h4 := m_step h1 (by omega) (j := j) (y := y) (by rw [f2]; exact lwF_lt _ _ _ _ e) hy (lwF_waits _ _ _ _ e)
      rw [h3] at h4
      exact h4
theorem due_R {n n' : Nat → Nat} {g g' : Nat → Nat → Int32} (h : Rel n g n' g') {y : Nat} (hy : y ≤ 1000000) : dueR n g (nI y) = mdR n' g' (nI y) := by
  have h1 := (m_due h hy (n 0) (Nat.le_refl _)).1
  unfold dueR mdR
  rw [← h.1.1, ← h.1.2.2.1, ← cw_rel h1.2.2.2.2.2.2.1 (nI y) (n 2) h.1.2.2.2.2.2.2.2.2.2.1, ← h1.1.2.2.2.1]
theorem m_file {n n' : Nat → Nat} {g g' : Nat → Nat → Int32} (h : Rel n g n' g') (hn2 : n 2 < 20) (a : Int32) : Rel (va_up (va_up (va_up n 2 (n 2 + 1)) 4 0) (10 + n 2) (n 4)) (va_up (va_up (va_up (va_up g 7 (upd (g 7) (n 2) (crc (n 4) (g 0)))) 8 (upd (g 8) (n 2) a)) (100 + n 2) (cpyTo (g (100 + n 2)) (g 0) (n 4))) (200 + n 2) (sha (n 4) (g 0))) (va_up (va_up n' 1 0) 2 (n' 2 + 1)) (va_up (va_up (va_up (va_up g' 1 (cpF (g' 1) (g' 0) (200 * n' 2) (n' 1))) 2 (upd (g' 2) (n' 2) (nI (n' 1)))) 3 (upd (g' 3) (n' 2) a)) 4 (wnt (g' 4) (sha (n' 1) (fun x => g' 0 x &&& nI 255)) (crM (g' 0) (n' 1) ^^^ (-1)) (36 * n' 2))) := by
  obtain ⟨hN, hZ, hC, hB, hL, hW, hS, hT, hR, h13⟩ := h
  have e2 : n 2 = n' 2 := hN.2.2.1
  have e4 : n 4 = n' 1 := hN.2.2.2.2.1
  have b4 : n 4 ≤ 200 := hN.2.2.2.2.2.2.2.2.2.2.2.1
  rw [← e2, ← e4, sha_rel (b := g' 0) hC, crM_crc (b := g' 0) hC]
  have p0 : (va_up (va_up (va_up n 2 (n 2 + 1)) 4 0) (10 + n 2) (n 4)) 0 = n 0 := by simp (disch := omega) only [va_up_ne, va_up_self]
  have p1 : (va_up (va_up (va_up n 2 (n 2 + 1)) 4 0) (10 + n 2) (n 4)) 1 = n 1 := by simp (disch := omega) only [va_up_ne, va_up_self]
  have p2 : (va_up (va_up (va_up n 2 (n 2 + 1)) 4 0) (10 + n 2) (n 4)) 2 = n 2 + 1 := by simp (disch := omega) only [va_up_ne, va_up_self]
  have p3 : (va_up (va_up (va_up n 2 (n 2 + 1)) 4 0) (10 + n 2) (n 4)) 3 = n 3 := by simp (disch := omega) only [va_up_ne, va_up_self]
  have p4 : (va_up (va_up (va_up n 2 (n 2 + 1)) 4 0) (10 + n 2) (n 4)) 4 = 0 := by simp (disch := omega) only [va_up_ne, va_up_self]
  have p5 : (va_up (va_up (va_up n 2 (n 2 + 1)) 4 0) (10 + n 2) (n 4)) 5 = n 5 := by simp (disch := omega) only [va_up_ne, va_up_self]
  have r0 : (va_up (va_up n' 1 0) 2 (n 2 + 1)) 0 = n' 0 := by simp (disch := omega) only [va_up_ne, va_up_self]
  have r1 : (va_up (va_up n' 1 0) 2 (n 2 + 1)) 1 = 0 := by simp (disch := omega) only [va_up_ne, va_up_self]
  have r2 : (va_up (va_up n' 1 0) 2 (n 2 + 1)) 2 = n 2 + 1 := by simp (disch := omega) only [va_up_ne, va_up_self]
  have r3 : (va_up (va_up n' 1 0) 2 (n 2 + 1)) 3 = n' 3 := by simp (disch := omega) only [va_up_ne, va_up_self]
  have r4 : (va_up (va_up n' 1 0) 2 (n 2 + 1)) 4 = n' 4 := by simp (disch := omega) only [va_up_ne, va_up_self]
  have r5 : (va_up (va_up n' 1 0) 2 (n 2 + 1)) 5 = n' 5 := by simp (disch := omega) only [va_up_ne, va_up_self]
  generalize hSS : sha (n 4) (g 0) = SS
  generalize hCC : crc (n 4) (g 0) = CC
  have hZ1 : RelZ (va_up (va_up (va_up n 2 (n 2 + 1)) 4 0) (10 + n 2) (n 4)) (va_up (va_up (va_up (va_up g' 1 (cpF (g' 1) (g' 0) (200 * n 2) (n 4))) 2 (upd (g' 2) (n 2) (nI (n 4)))) 3 (upd (g' 3) (n 2) a)) 4 (wnt (g' 4) SS CC (36 * n 2))) := by
    intro q hq
    show va_up (va_up (va_up n 2 (n 2 + 1)) 4 0) (10 + n 2) (n 4) (10 + q) ≤ 200 ∧ upd (g' 2) (n 2) (nI (n 4)) q = nI (va_up (va_up (va_up n 2 (n 2 + 1)) 4 0) (10 + n 2) (n 4) (10 + q))
    by_cases e : q = n 2
    · rw [e, va_up_self, pk_us]
      exact ⟨b4, rfl⟩
    · rw [va_up_ne _ _ (by omega), va_up_ne _ _ (by omega), va_up_ne _ _ (by omega), pk_un e]
      exact hZ q hq
  have hC1 : RelC (va_up (va_up (va_up n 2 (n 2 + 1)) 4 0) (10 + n 2) (n 4)) (va_up (va_up (va_up (va_up g 7 (upd (g 7) (n 2) CC)) 8 (upd (g 8) (n 2) a)) (100 + n 2) (cpyTo (g (100 + n 2)) (g 0) (n 4))) (200 + n 2) SS) (va_up (va_up (va_up (va_up g' 1 (cpF (g' 1) (g' 0) (200 * n 2) (n 4))) 2 (upd (g' 2) (n 2) (nI (n 4)))) 3 (upd (g' 3) (n 2) a)) 4 (wnt (g' 4) SS CC (36 * n 2))) := fun k hk => by
    rw [va_up_ne _ _ (by omega), va_up_self] at hk
    omega
  have hB1 : RelB (va_up (va_up (va_up n 2 (n 2 + 1)) 4 0) (10 + n 2) (n 4)) (va_up (va_up (va_up (va_up g 7 (upd (g 7) (n 2) CC)) 8 (upd (g 8) (n 2) a)) (100 + n 2) (cpyTo (g (100 + n 2)) (g 0) (n 4))) (200 + n 2) SS) (va_up (va_up (va_up (va_up g' 1 (cpF (g' 1) (g' 0) (200 * n 2) (n 4))) 2 (upd (g' 2) (n 2) (nI (n 4)))) 3 (upd (g' 3) (n 2) a)) 4 (wnt (g' 4) SS CC (36 * n 2))) := by
    intro q hq k hk
    show va_up (va_up (va_up (va_up g 7 (upd (g 7) (n 2) CC)) 8 (upd (g 8) (n 2) a)) (100 + n 2) (cpyTo (g (100 + n 2)) (g 0) (n 4))) (200 + n 2) SS (100 + q) k = cpF (g' 1) (g' 0) (200 * n 2) (n 4) (200 * q + k) &&& nI 255
    rw [va_up_ne _ _ (by omega)]
    by_cases e : q = n 2
    · rw [e, va_up_self] at hk
      rw [e, va_up_self, cp_in hk]
      unfold cpF
      rw [if_pos (by omega), show 200 * n 2 + k - 200 * n 2 = k by omega, i8_255]
      exact hC k hk
    · rw [va_up_ne _ _ (by omega), va_up_ne _ _ (by omega), va_up_ne _ _ (by omega)] at hk
      have := (hZ q hq).1
      rw [va_up_ne _ _ (by omega), va_up_ne _ _ (by omega), va_up_ne _ _ (by omega), cpF_out (by omega)]
      exact hB q hq k hk
  have hW1 : RelW (va_up (va_up (va_up n 2 (n 2 + 1)) 4 0) (10 + n 2) (n 4)) (va_up (va_up (va_up (va_up g 7 (upd (g 7) (n 2) CC)) 8 (upd (g 8) (n 2) a)) (100 + n 2) (cpyTo (g (100 + n 2)) (g 0) (n 4))) (200 + n 2) SS) (va_up (va_up (va_up (va_up g' 1 (cpF (g' 1) (g' 0) (200 * n 2) (n 4))) 2 (upd (g' 2) (n 2) (nI (n 4)))) 3 (upd (g' 3) (n 2) a)) 4 (wnt (g' 4) SS CC (36 * n 2))) := by
    intro q hq
    rw [va_up_ne _ _ (by omega), va_up_ne _ _ (by omega), va_up_self] at hq
    have f7 : va_up (va_up (va_up (va_up g 7 (upd (g 7) (n 2) CC)) 8 (upd (g 8) (n 2) a)) (100 + n 2) (cpyTo (g (100 + n 2)) (g 0) (n 4))) (200 + n 2) SS 7 = upd (g 7) (n 2) CC := by simp (disch := omega) only [va_up_ne, va_up_self]
    have f8 : va_up (va_up (va_up (va_up g 7 (upd (g 7) (n 2) CC)) 8 (upd (g 8) (n 2) a)) (100 + n 2) (cpyTo (g (100 + n 2)) (g 0) (n 4))) (200 + n 2) SS 8 = upd (g 8) (n 2) a := by simp (disch := omega) only [va_up_ne, va_up_self]
    rw [f7, f8]
    show (∀ k, k < 36 → wnt (g' 4) SS CC (36 * n 2) (36 * q + k) = dgb (va_up (va_up (va_up (va_up g 7 (upd (g 7) (n 2) CC)) 8 (upd (g 8) (n 2) a)) (100 + n 2) (cpyTo (g (100 + n 2)) (g 0) (n 4))) (200 + n 2) SS (200 + q)) (upd (g 7) (n 2) CC q) k) ∧ upd (g 8) (n 2) a q = upd (g' 3) (n 2) a q
    by_cases e : q = n 2
    · rw [e, va_up_self, pk_us, pk_us, pk_us]
      refine ⟨fun k hk => ?_, rfl⟩
      unfold wnt
      rw [if_pos (by omega), show 36 * n 2 + k - 36 * n 2 = k by omega]
    · rw [va_up_ne _ _ (by omega), va_up_ne _ _ (by omega), va_up_ne _ _ (by omega), va_up_ne _ _ (by omega), pk_un e, pk_un e, pk_un e]
      obtain ⟨w1, w2⟩ := hW q (by omega)
      refine ⟨fun k hk => ?_, w2⟩
      unfold wnt
      rw [if_neg (by omega)]
      exact w1 k hk
  exact ⟨(by unfold RelN at hN ⊢; rw [p0, p1, p2, p3, p4, p5, r0, r1, r2, r3, r4, r5]; omega), hZ1, hC1, hB1, (hL.c (by first | rfl | simp (disch := omega) only [va_up_ne, va_up_self]) (by first | rfl | simp (disch := omega) only [va_up_ne, va_up_self]) (by first | rfl | simp (disch := omega) only [va_up_ne, va_up_self])), hW1, (hS.c (by first | rfl | simp (disch := omega) only [va_up_ne, va_up_self]) (by first | rfl | simp (disch := omega) only [va_up_ne, va_up_self]) (by first | rfl | simp (disch := omega) only [va_up_ne, va_up_self]) (by first | rfl | simp (disch := omega) only [va_up_ne, va_up_self]) (by first | rfl | simp (disch := omega) only [va_up_ne, va_up_self]) (by first | rfl | simp (disch := omega) only [va_up_ne, va_up_self]) (by first | rfl | simp (disch := omega) only [va_up_ne, va_up_self]) (by first | rfl | simp (disch := omega) only [va_up_ne, va_up_self])), (hT.c (by first | rfl | simp (disch := omega) only [va_up_ne, va_up_self]) (by first | rfl | simp (disch := omega) only [va_up_ne, va_up_self]) (by first | rfl | simp (disch := omega) only [va_up_ne, va_up_self]) (by first | rfl | simp (disch := omega) only [va_up_ne, va_up_self]) (by first | rfl | simp (disch := omega) only [va_up_ne, va_up_self])), (hR.c hN.2.2.2.2.2.2.2.2.2.2.2.2 (by first | rfl | simp (disch := omega) only [va_up_ne, va_up_self]) (by first | rfl | simp (disch := omega) only [va_up_ne, va_up_self]) (by first | rfl | simp (disch := omega) only [va_up_ne, va_up_self]) (by first | rfl | simp (disch := omega) only [va_up_ne, va_up_self]) (fun i hi => by first | rfl | simp (disch := omega) only [va_up_ne, va_up_self]) (by first | rfl | simp (disch := omega) only [va_up_ne, va_up_self]) (by first | rfl | simp (disch := omega) only [va_up_ne, va_up_self]) (by first | rfl | simp (disch := omega) only [va_up_ne, va_up_self]) (by first | rfl | simp (disch := omega) only [va_up_ne, va_up_self])), (by first | exact h13 | (simp (disch := omega) only [va_up_ne, va_up_self]; exact h13))⟩
theorem m_copy {n n' : Nat → Nat} {g g' : Nat → Nat → Int32} (h : Rel n g n' g') {i b : Nat} (hi : i < 20) (hb : b < 20) (hib : i ≠ b) : Rel (va_up n (10 + i) (n (10 + b))) (va_up (va_up g 12 (upd (g 12) i (g 12 i + nI 1))) (100 + i) (cpyTo (g (100 + i)) (g (100 + b)) (n (10 + b)))) n' (va_up (va_up (va_up g' 1 (cpF (g' 1) (fun x => g' 1 (200 * b + x)) (200 * i) (n (10 + b)))) 2 (upd (g' 2) i (nI (n (10 + b))))) 6 (upd (g' 6) i (g' 6 i + nI 1))) := by
  obtain ⟨hN, hZ, hC, hB, hL, hW, hS, hT, hR, h13⟩ := h
  have zb := (hZ b hb).1
  have hZ1 : RelZ (va_up n (10 + i) (n (10 + b))) (va_up (va_up (va_up g' 1 (cpF (g' 1) (fun x => g' 1 (200 * b + x)) (200 * i) (n (10 + b)))) 2 (upd (g' 2) i (nI (n (10 + b))))) 6 (upd (g' 6) i (g' 6 i + nI 1))) := by
    intro q hq
    show va_up n (10 + i) (n (10 + b)) (10 + q) ≤ 200 ∧ upd (g' 2) i (nI (n (10 + b))) q = nI (va_up n (10 + i) (n (10 + b)) (10 + q))
    by_cases e : q = i
    · rw [e, va_up_self, pk_us]
      exact ⟨zb, rfl⟩
    · rw [va_up_ne _ _ (by omega), pk_un e]
      exact hZ q hq
  have hB1 : RelB (va_up n (10 + i) (n (10 + b))) (va_up (va_up g 12 (upd (g 12) i (g 12 i + nI 1))) (100 + i) (cpyTo (g (100 + i)) (g (100 + b)) (n (10 + b)))) (va_up (va_up (va_up g' 1 (cpF (g' 1) (fun x => g' 1 (200 * b + x)) (200 * i) (n (10 + b)))) 2 (upd (g' 2) i (nI (n (10 + b))))) 6 (upd (g' 6) i (g' 6 i + nI 1))) := by
    intro q hq k hk
    show va_up (va_up g 12 (upd (g 12) i (g 12 i + nI 1))) (100 + i) (cpyTo (g (100 + i)) (g (100 + b)) (n (10 + b))) (100 + q) k = cpF (g' 1) (fun x => g' 1 (200 * b + x)) (200 * i) (n (10 + b)) (200 * q + k) &&& nI 255
    by_cases e : q = i
    · rw [e, va_up_self] at hk
      rw [e, va_up_self, cp_in hk]
      unfold cpF
      rw [if_pos (by omega), show 200 * i + k - 200 * i = k by omega, i8_255]
      exact hB b hb k hk
    · rw [va_up_ne _ _ (by omega)] at hk
      have := (hZ q hq).1
      rw [va_up_ne _ _ (by omega), va_up_ne _ _ (by omega), cpF_out (by omega)]
      exact hB q hq k hk
  have hS1 : RelS (va_up (va_up g 12 (upd (g 12) i (g 12 i + nI 1))) (100 + i) (cpyTo (g (100 + i)) (g (100 + b)) (n (10 + b)))) (va_up (va_up (va_up g' 1 (cpF (g' 1) (fun x => g' 1 (200 * b + x)) (200 * i) (n (10 + b)))) 2 (upd (g' 2) i (nI (n (10 + b))))) 6 (upd (g' 6) i (g' 6 i + nI 1))) := by
    intro q hq
    obtain ⟨a1, a2, a3, a4, a5⟩ := hS q hq
    simp (disch := omega) only [va_up_ne, va_up_self]
    refine ⟨a1, a2, a3, ?_, a5⟩
    by_cases e : q = i
    · rw [e] at a4 ⊢
      rw [pk_us, pk_us, a4]
    · rw [pk_un e, pk_un e]
      exact a4
  exact ⟨(by unfold RelN at *; simp (disch := omega) only [va_up_ne, va_up_self]; omega), hZ1, (hC.c (by first | rfl | simp (disch := omega) only [va_up_ne, va_up_self]) (by first | rfl | simp (disch := omega) only [va_up_ne, va_up_self]) (by first | rfl | simp (disch := omega) only [va_up_ne, va_up_self])), hB1, (hL.c (by first | rfl | simp (disch := omega) only [va_up_ne, va_up_self]) (by first | rfl | simp (disch := omega) only [va_up_ne, va_up_self]) (by first | rfl | simp (disch := omega) only [va_up_ne, va_up_self])), (hW.c hN.2.2.2.2.2.2.2.2.2.1 (by first | rfl | simp (disch := omega) only [va_up_ne, va_up_self]) (fun i hi => by first | rfl | simp (disch := omega) only [va_up_ne, va_up_self]) (by first | rfl | simp (disch := omega) only [va_up_ne, va_up_self]) (by first | rfl | simp (disch := omega) only [va_up_ne, va_up_self]) (by first | rfl | simp (disch := omega) only [va_up_ne, va_up_self]) (by first | rfl | simp (disch := omega) only [va_up_ne, va_up_self])), hS1, (hT.c (by first | rfl | simp (disch := omega) only [va_up_ne, va_up_self]) (by first | rfl | simp (disch := omega) only [va_up_ne, va_up_self]) (by first | rfl | simp (disch := omega) only [va_up_ne, va_up_self]) (by first | rfl | simp (disch := omega) only [va_up_ne, va_up_self]) (by first | rfl | simp (disch := omega) only [va_up_ne, va_up_self])), (hR.c hN.2.2.2.2.2.2.2.2.2.2.2.2 (by first | rfl | simp (disch := omega) only [va_up_ne, va_up_self]) (by first | rfl | simp (disch := omega) only [va_up_ne, va_up_self]) (by first | rfl | simp (disch := omega) only [va_up_ne, va_up_self]) (by first | rfl | simp (disch := omega) only [va_up_ne, va_up_self]) (fun i hi => by first | rfl | simp (disch := omega) only [va_up_ne, va_up_self]) (by first | rfl | simp (disch := omega) only [va_up_ne, va_up_self]) (by first | rfl | simp (disch := omega) only [va_up_ne, va_up_self]) (by first | rfl | simp (disch := omega) only [va_up_ne, va_up_self]) (by first | rfl | simp (disch := omega) only [va_up_ne, va_up_self])), (by first | exact h13 | (simp (disch := omega) only [va_up_ne, va_up_self]; exact h13))⟩
theorem m_sday {n n' : Nat → Nat} {g g' : Nat → Nat → Int32} (h : Rel n g n' g') {i : Nat} (hi : i < n 5) (y : Int32) : Rel n (va_up g 6 (upd (g 6) i (g 6 i ^^^ y))) n' (va_up g' 14 (upd (g' 14) i (g' 14 i ^^^ y))) := by
  obtain ⟨hN, hZ, hC, hB, hL, hW, hS, hT, hR, h13⟩ := h
  have hR1 : RelR n (va_up g 6 (upd (g 6) i (g 6 i ^^^ y))) (va_up g' 14 (upd (g' 14) i (g' 14 i ^^^ y))) := by
    intro q hq
    obtain ⟨a1, a2, a3, a4⟩ := hR q hq
    have b5 : n 5 ≤ 200 := hN.2.2.2.2.2.2.2.2.2.2.2.2
    simp (disch := omega) only [va_up_ne, va_up_self]
    refine ⟨a1, a2, ?_, a4⟩
    by_cases e : q = i
    · rw [e] at a3 ⊢
      rw [pk_us, pk_us, a3]
    · rw [pk_un e, pk_un e]
      exact a3
  exact ⟨hN, (hZ.c (fun i hi => by first | rfl | simp (disch := omega) only [va_up_ne, va_up_self]) (by first | rfl | simp (disch := omega) only [va_up_ne, va_up_self])), (hC.c (by first | rfl | simp (disch := omega) only [va_up_ne, va_up_self]) (by first | rfl | simp (disch := omega) only [va_up_ne, va_up_self]) (by first | rfl | simp (disch := omega) only [va_up_ne, va_up_self])), (hB.c (fun i hi => by first | rfl | simp (disch := omega) only [va_up_ne, va_up_self]) (fun i hi => by first | rfl | simp (disch := omega) only [va_up_ne, va_up_self]) (by first | rfl | simp (disch := omega) only [va_up_ne, va_up_self])), (hL.c (by first | rfl | simp (disch := omega) only [va_up_ne, va_up_self]) (by first | rfl | simp (disch := omega) only [va_up_ne, va_up_self]) (by first | rfl | simp (disch := omega) only [va_up_ne, va_up_self])), (hW.c hN.2.2.2.2.2.2.2.2.2.1 (by first | rfl | simp (disch := omega) only [va_up_ne, va_up_self]) (fun i hi => by first | rfl | simp (disch := omega) only [va_up_ne, va_up_self]) (by first | rfl | simp (disch := omega) only [va_up_ne, va_up_self]) (by first | rfl | simp (disch := omega) only [va_up_ne, va_up_self]) (by first | rfl | simp (disch := omega) only [va_up_ne, va_up_self]) (by first | rfl | simp (disch := omega) only [va_up_ne, va_up_self])), (hS.c (by first | rfl | simp (disch := omega) only [va_up_ne, va_up_self]) (by first | rfl | simp (disch := omega) only [va_up_ne, va_up_self]) (by first | rfl | simp (disch := omega) only [va_up_ne, va_up_self]) (by first | rfl | simp (disch := omega) only [va_up_ne, va_up_self]) (by first | rfl | simp (disch := omega) only [va_up_ne, va_up_self]) (by first | rfl | simp (disch := omega) only [va_up_ne, va_up_self]) (by first | rfl | simp (disch := omega) only [va_up_ne, va_up_self]) (by first | rfl | simp (disch := omega) only [va_up_ne, va_up_self])), (hT.c (by first | rfl | simp (disch := omega) only [va_up_ne, va_up_self]) (by first | rfl | simp (disch := omega) only [va_up_ne, va_up_self]) (by first | rfl | simp (disch := omega) only [va_up_ne, va_up_self]) (by first | rfl | simp (disch := omega) only [va_up_ne, va_up_self]) (by first | rfl | simp (disch := omega) only [va_up_ne, va_up_self])), hR1, (by first | exact h13 | (simp (disch := omega) only [va_up_ne, va_up_self]; exact h13))⟩
theorem m_gone {n n' : Nat → Nat} {g g' : Nat → Nat → Int32} (h : Rel n g n' g') {i : Nat} (hi : i < n 5) : Rel (va_up n 5 (n 5 - 1)) (va_up (va_up (va_up (grow g (mrem (fun i8 => g (1000 + i8)) i (n 5 - 1))) 4 (shl (g 4) i (n 5 - 1))) 5 (shl (g 5) i (n 5 - 1))) 6 (shl (g 6) i (n 5 - 1))) (va_up n' 4 (n' 4 - 1)) (va_up (va_up (va_up (va_up g' 11 (shl (g' 11) i (n' 4 - 1))) 12 (shl (g' 12) i (n' 4 - 1))) 14 (shl (g' 14) i (n' 4 - 1))) 15 (shB (g' 15) i (32 * (n' 4 - 1)))) := by
  obtain ⟨hN, hZ, hC, hB, hL, hW, hS, hT, hR, h13⟩ := h
  have e5 : n 5 = n' 4 := hN.2.2.2.2.2.1
  have b5 : n 5 ≤ 200 := hN.2.2.2.2.2.2.2.2.2.2.2.2
  have hR1 : RelR (va_up n 5 (n 5 - 1)) (va_up (va_up (va_up (grow g (mrem (fun i8 => g (1000 + i8)) i (n 5 - 1))) 4 (shl (g 4) i (n 5 - 1))) 5 (shl (g 5) i (n 5 - 1))) 6 (shl (g 6) i (n 5 - 1))) (va_up (va_up (va_up (va_up g' 11 (shl (g' 11) i (n' 4 - 1))) 12 (shl (g' 12) i (n' 4 - 1))) 14 (shl (g' 14) i (n' 4 - 1))) 15 (shB (g' 15) i (32 * (n' 4 - 1)))) := by
    intro q hq
    rw [va_up_self] at hq
    have eM : (va_up (va_up (va_up (grow g (mrem (fun i8 => g (1000 + i8)) i (n 5 - 1))) 4 (shl (g 4) i (n 5 - 1))) 5 (shl (g 5) i (n 5 - 1))) 6 (shl (g 6) i (n 5 - 1))) (1000 + q) = mrem (fun i8 => g (1000 + i8)) i (n 5 - 1) q := by
      rw [va_up_ne _ _ (by omega), va_up_ne _ _ (by omega), va_up_ne _ _ (by omega), grow_at _ _ (by omega)]
    rw [eM]
    show shl (g 4) i (n 5 - 1) q = shl (g' 11) i (n' 4 - 1) q ∧ shl (g 5) i (n 5 - 1) q = shl (g' 12) i (n' 4 - 1) q ∧ shl (g 6) i (n 5 - 1) q = shl (g' 14) i (n' 4 - 1) q ∧ ∀ k, k < 32 → shB (g' 15) i (32 * (n' 4 - 1)) (32 * q + k) = sby (mrem (fun i8 => g (1000 + i8)) i (n 5 - 1) q) k
    rw [← e5]
    unfold shl mrem shB
    by_cases c : i ≤ q ∧ q < n 5 - 1
    · obtain ⟨a1, a2, a3, a4⟩ := hR (q + 1) (by omega)
      rw [if_pos c, if_pos c, if_pos c, if_pos c, if_pos c, if_pos c, if_pos c]
      refine ⟨a1, a2, a3, fun k hk => ?_⟩
      rw [if_pos (by omega), show 32 * q + k + 32 = 32 * (q + 1) + k by omega, a4 k hk, sby_i8]
      exact sby_ext (fun j hj => (cp_in hj).symm) k hk
    · obtain ⟨a1, a2, a3, a4⟩ := hR q (by omega)
      rw [if_neg c, if_neg c, if_neg c, if_neg c, if_neg c, if_neg c, if_neg c]
      refine ⟨a1, a2, a3, fun k hk => ?_⟩
      rw [if_neg (by omega)]
      exact a4 k hk
  exact ⟨(by unfold RelN at *; simp [va_up] <;> omega), (hZ.c (fun i hi => by first | rfl | simp (disch := omega) only [va_up_ne, va_up_self]) rfl), (hC.c rfl (by simp (disch := omega) only [va_up_ne, grow_ne]) rfl), (hB.c (fun i hi => by first | rfl | simp (disch := omega) only [va_up_ne, va_up_self]) (fun i hi => by simp (disch := omega) only [va_up_ne, grow_ne]) rfl), (hL.c rfl (by simp (disch := omega) only [va_up_ne, grow_ne]) rfl), (hW.c hN.2.2.2.2.2.2.2.2.2.1 rfl (fun i hi => by simp (disch := omega) only [va_up_ne, grow_ne]) (by simp (disch := omega) only [va_up_ne, grow_ne]) (by simp (disch := omega) only [va_up_ne, grow_ne]) rfl rfl), (hS.c (by simp (disch := omega) only [va_up_ne, grow_ne]) (by simp (disch := omega) only [va_up_ne, grow_ne]) (by simp (disch := omega) only [va_up_ne, grow_ne]) (by simp (disch := omega) only [va_up_ne, grow_ne]) rfl rfl rfl rfl), (hT.c rfl (by simp (disch := omega) only [va_up_ne, grow_ne]) (by simp (disch := omega) only [va_up_ne, grow_ne]) rfl rfl), hR1, (by simp (disch := omega) only [va_up_ne, grow_ne]; exact h13)⟩
theorem chainRel {n n' : Nat → Nat} {g g' : Nat → Nat → Int32} (h : Rel n g n' g') {i : Nat} (hi : i < n 5) : (∀ j, j < 8 → g (1000 + i) j = rowD (prevD (fun i8 => g (1000 + i8)) i) (g 4 i) (g 5 i) (g 6 i) j) ↔ ∀ k, k < 32 → (jushr (rowS (g' 15) i (g' 11 i) (g' 12 i) (g' 14 i) (k / 4)) (nI (24 - 8 * (k % 4)))).toInt8.toInt32 = g' 15 (32 * i + k) := by
  have hR := h.2.2.2.2.2.2.2.2.1
  obtain ⟨a1, a2, a3, a4⟩ := hR i hi
  rw [rowS_D (M := fun i8 => g (1000 + i8)) (fun h0 k hk => (hR (i - 1) (by omega)).2.2.2 k hk), ← a1, ← a2, ← a3]
  constructor
  · intro q k hk
    rw [a4 k hk]
    exact sby_ext (fun j hj => (q j hj).symm) k hk
  · intro q j hj
    exact (sby_inj (fun k hk => (q k hk).trans (a4 k hk)) j hj).symm
