/-! ===== call by call: the class's answer is the reference's, and the states stay together ===== -/
def stX (y : MethodName) (ws : List Cond) (rm : Room) (av : List Value) (n : Nat → Nat) (g : Nat → Nat → Int32) (r : Int32) (n1 : Nat → Nat) (g1 : Nat → Nat → Int32) : Prop :=
  ∀ (l : Launch) (D : va_G) (ca : Nat → ClassId) (N : Nat) (ad : Nat → Nat) (B tR tK : Nat) (f : Nat → va_E), xD N ad B → 302 ≤ N → ∀ (z : Nat → Nat → Int32) (zn : Nat) (tb : Nat → Int32), RepX ca ad n g z zn tb f → xMi l y ws rm (.ref (ad 0) :: av) D ca N ad B tR tK f (fun r' u => r = r' ∧ ∃ (z1 : Nat → Nat → Int32) (zn1 : Nat), RepX ca ad n1 g1 z1 zn1 tb u ∧ ∀ y, 302 ≤ y → u y = f y)
def stM (y : MethodName) (ws : List Cond) (rm : Room) (av : List Value) (n : Nat → Nat) (g : Nat → Nat → Int32) (r : Int32) (n1 : Nat → Nat) (g1 : Nat → Nat → Int32) : Prop :=
  ∀ (l : Launch) (D : va_G) (ca : Nat → ClassId) (N : Nat) (ad : Nat → Nat) (B tR tK : Nat) (f : Nat → va_E), xD N ad B → 326 ≤ N → ∀ (z : Nat → Nat → Int32) (zn : Nat) (tb : Nat → Int32), RepM ca ad n g z zn tb f → xMi l y ws rm (.ref (ad 302) :: av) D ca N ad B tR tK f (fun r' u => r = r' ∧ ∃ (z1 : Nat → Nat → Int32) (zn1 : Nat), RepM ca ad n1 g1 z1 zn1 tb u ∧ ∀ y, (y < 302 ∨ 326 ≤ y) → u y = f y)
def stXv (y : MethodName) (ws : List Cond) (rm : Room) (av : List Value) (n : Nat → Nat) (g : Nat → Nat → Int32) (n1 : Nat → Nat) (g1 : Nat → Nat → Int32) : Prop :=
  ∀ (l : Launch) (D : va_G) (ca : Nat → ClassId) (N : Nat) (ad : Nat → Nat) (B tR tK : Nat) (f : Nat → va_E), xD N ad B → 302 ≤ N → ∀ (z : Nat → Nat → Int32) (zn : Nat) (tb : Nat → Int32), RepX ca ad n g z zn tb f → xMv l y ws rm (.ref (ad 0) :: av) D ca N ad B tR tK f (fun u => ∃ (z1 : Nat → Nat → Int32) (zn1 : Nat), RepX ca ad n1 g1 z1 zn1 tb u ∧ ∀ y, 302 ≤ y → u y = f y)
def stMv (y : MethodName) (ws : List Cond) (rm : Room) (av : List Value) (n : Nat → Nat) (g : Nat → Nat → Int32) (n1 : Nat → Nat) (g1 : Nat → Nat → Int32) : Prop :=
  ∀ (l : Launch) (D : va_G) (ca : Nat → ClassId) (N : Nat) (ad : Nat → Nat) (B tR tK : Nat) (f : Nat → va_E), xD N ad B → 326 ≤ N → ∀ (z : Nat → Nat → Int32) (zn : Nat) (tb : Nat → Int32), RepM ca ad n g z zn tb f → xMv l y ws rm (.ref (ad 302) :: av) D ca N ad B tR tK f (fun u => ∃ (z1 : Nat → Nat → Int32) (zn1 : Nat), RepM ca ad n1 g1 z1 zn1 tb u ∧ ∀ y, (y < 302 ∨ 326 ≤ y) → u y = f y)
theorem up_lt {a b : Nat} {x : Int32} (h : nI b ≤ x) (hab : a < b) (hb : b < 2 ^ 31) : nI a < x := Int32.lt_of_lt_of_le (nI_lt hab hb) h
theorem day3 (y : Int32) : (y < 0 ∨ nI 1000000 < y) ∨ ∃ j : Nat, j ≤ 1000000 ∧ y = nI j := by
  rcases pk_ix y (n := 1000001) (by omega) with h | h | ⟨j, hj, e⟩
  · exact Or.inl (Or.inl h)
  · exact Or.inl (Or.inr (up_lt h (by omega) (by omega)))
  · exact Or.inr ⟨j, by omega, e⟩
theorem ix2 (x : Int32) (n : Nat) (hn : n < 2 ^ 31) : (x < 0 ∨ nI n ≤ x) ∨ ∃ j : Nat, j < n ∧ x = nI j := by
  rcases pk_ix x hn with h | h | h
  · exact Or.inl (Or.inl h)
  · exact Or.inl (Or.inr h)
  · exact Or.inr h
theorem out4 {y : Int32} (h : y < 0 ∨ nI 4 ≤ y) : y.toInt < 0 ∨ 3 < y.toInt := by
  rcases h with h | h
  · exact Or.inl (by simpa using Int32.lt_iff_toInt_lt.mp h)
  · refine Or.inr ?_
    have := Int32.le_iff_toInt_le.mp h
    rw [nI_toInt (by omega)] at this
    omega
theorem first_of (Q : Nat → Prop) : ∀ n : Nat, (∀ b, b < n → ¬ Q b) ∨ ∃ b, b < n ∧ Q b ∧ ∀ q, q < b → ¬ Q q := by
  intro n
  induction n with
  | zero => exact Or.inl (fun b hb => absurd hb (Nat.not_lt_zero b))
  | succ n ih =>
    rcases ih with h | ⟨b, h1, h2, h3⟩
    · by_cases hq : Q n
      · exact Or.inr ⟨n, Nat.lt_succ_self n, hq, h⟩
      · exact Or.inl (fun b hb => (Nat.lt_or_ge b n).elim (fun z => h b z) (fun z => by rw [show b = n by omega]; exact hq))
    · exact Or.inr ⟨b, by omega, h2, h3⟩
theorem rowG_of {n1 n : Nat → Nat} {G g : Nat → Nat → Int32} (a : n1 5 = n 5) (b : G 4 = g 4) (c : G 5 = g 5) (d : G 6 = g 6) (e : ∀ i, G (1000 + i) = g (1000 + i)) (kd fl y : Int32) : rowG n1 G kd fl y = va_up (va_up (va_up (va_up G 4 (upd (g 4) (n 5) kd)) 5 (upd (g 5) (n 5) fl)) 6 (upd (g 6) (n 5) y)) (1000 + n 5) (rowD (prevD (fun i8 => g (1000 + i8)) (n 5)) kd fl y) := by
  unfold rowG
  rw [a, b, c, d, show (fun i8 => G (1000 + i8)) = fun i8 => g (1000 + i8) from funext e]
theorem mrowG_of {n1 n' : Nat → Nat} {G g : Nat → Nat → Int32} (a : n1 4 = n' 4) (b : G 11 = g 11) (c : G 12 = g 12) (d : G 14 = g 14) (e : G 15 = g 15) (kd fl y : Int32) : mrowG n1 G kd fl y = va_up (va_up (va_up (va_up G 11 (upd (g 11) (n' 4) kd)) 12 (upd (g 12) (n' 4) fl)) 14 (upd (g 14) (n' 4) y)) 15 (rowB (g 15) (rowS (g 15) (n' 4) kd fl y) (n' 4)) := by
  unfold mrowG
  rw [a, b, c, d, e]
theorem perm_file (g : Nat → Nat → Int32) {f r : Nat} (hf : f < 20) (a4 a5 a6 a7 a8 af as ar : Nat → Int32) : va_up (va_up (va_up (va_up (va_up (va_up (va_up (va_up g 4 a4) 5 a5) 6 a6) 7 a7) 8 a8) (100 + f) af) (200 + f) as) (1000 + r) ar = va_up (va_up (va_up (va_up (va_up (va_up (va_up (va_up g 7 a7) 8 a8) (100 + f) af) (200 + f) as) 4 a4) 5 a5) 6 a6) (1000 + r) ar := by
  funext a
  rcases (show a = 4 ∨ a = 5 ∨ a = 6 ∨ a = 7 ∨ a = 8 ∨ a = 100 + f ∨ a = 200 + f ∨ a = 1000 + r ∨ (a ≠ 4 ∧ a ≠ 5 ∧ a ≠ 6 ∧ a ≠ 7 ∧ a ≠ 8 ∧ a ≠ 100 + f ∧ a ≠ 200 + f ∧ a ≠ 1000 + r) by omega) with h | h | h | h | h | h | h | h | ⟨h1, h2, h3, h4, h5, h6, h7, h8⟩
  all_goals first | (rw [h]; simp (disch := omega) only [va_up_ne, va_up_self]) | simp (disch := omega) only [va_up_ne]
theorem perm_mend (g : Nat → Nat → Int32) {f r : Nat} (hf : f < 20) (a4 a5 a6 a12 af ar : Nat → Int32) : va_up (va_up (va_up (va_up (va_up (va_up g 4 a4) 5 a5) 6 a6) 12 a12) (100 + f) af) (1000 + r) ar = va_up (va_up (va_up (va_up (va_up (va_up g 12 a12) (100 + f) af) 4 a4) 5 a5) 6 a6) (1000 + r) ar := by
  funext a
  rcases (show a = 4 ∨ a = 5 ∨ a = 6 ∨ a = 12 ∨ a = 100 + f ∨ a = 1000 + r ∨ (a ≠ 4 ∧ a ≠ 5 ∧ a ≠ 6 ∧ a ≠ 12 ∧ a ≠ 100 + f ∧ a ≠ 1000 + r) by omega) with h | h | h | h | h | h | ⟨h1, h2, h3, h4, h5, h6⟩
  all_goals first | (rw [h]; simp (disch := omega) only [va_up_ne, va_up_self]) | simp (disch := omega) only [va_up_ne]
theorem s_octet {n n' : Nat → Nat} {g g' : Nat → Nat → Int32} (h : Rel n g n' g') (x : Int32) : ∃ (n1 : Nat → Nat) (g1 : Nat → Nat → Int32) (n1' : Nat → Nat) (g1' : Nat → Nat → Int32), stXv yX5_octet wsX5_octet rmX5_octet [.int x] n g n1 g1 ∧ stMv yX6_octet wsX6_octet rmX6_octet [.int x] n' g' n1' g1' ∧ Rel n1 g1 n1' g1' := by
  obtain ⟨e0, e1, e2, e3, e4, e5, b0, b0', b1, b2, b3, b4, b5⟩ := h.1
  have hsz : ∀ i, i < 20 → n (10 + i) ≤ 200 := fun i hi => (h.2.1 i hi).1
  have hz : ∀ i, i < 20 → g' 2 i = nI (n (10 + i)) := fun i hi => (h.2.1 i hi).2
  rcases Nat.lt_or_ge (n 4) 200 with h4 | h4
  · exact ⟨_, _, _, _, (fun l D ca N ad B tR tK f dd hN z zn tb hR => k_X5_octet_in l D ca N ad B tR tK f dd hN n g z zn tb hR x h4), (fun l D ca N ad B tR tK f dd hN z zn tb hR => k_X6_octet_in l D ca N ad B tR tK f dd hN n' g' z zn tb hR x (by omega)), m_octet (m_thr h 0) h4 x⟩
  · exact ⟨_, _, _, _, (fun l D ca N ad B tR tK f dd hN z zn tb hR => k_X5_octet_full l D ca N ad B tR tK f dd hN n g z zn tb hR x (by omega)), (fun l D ca N ad B tR tK f dd hN z zn tb hR => k_X6_octet_full l D ca N ad B tR tK f dd hN n' g' z zn tb hR x (by omega)), m_thr h 0⟩
theorem s_digest {n n' : Nat → Nat} {g g' : Nat → Nat → Int32} (h : Rel n g n' g') (x : Int32) : ∃ (r : Int32) (n1 : Nat → Nat) (g1 : Nat → Nat → Int32) (n1' : Nat → Nat) (g1' : Nat → Nat → Int32), stX yX5_digest wsX5_digest rmX5_digest [.int x] n g r n1 g1 ∧ stM yX6_digest wsX6_digest rmX6_digest [.int x] n' g' r n1' g1' ∧ Rel n1 g1 n1' g1' := by
  obtain ⟨e0, e1, e2, e3, e4, e5, b0, b0', b1, b2, b3, b4, b5⟩ := h.1
  have hsz : ∀ i, i < 20 → n (10 + i) ≤ 200 := fun i hi => (h.2.1 i hi).1
  have hz : ∀ i, i < 20 → g' 2 i = nI (n (10 + i)) := fun i hi => (h.2.1 i hi).2
  by_cases x0 : x = nI 0
  · rw [x0]
    exact ⟨_, _, _, _, _, (fun l D ca N ad B tR tK f dd hN z zn tb hR => k_X5_digest_a0 l D ca N ad B tR tK f dd hN n g z zn tb hR b4), (fun l D ca N ad B tR tK f dd hN z zn tb hR => k_X6_digest_a0 l D ca N ad B tR tK f dd hN n' g' z zn tb hR (by omega)), m_dig0 (m_thr h 0)⟩
  · by_cases x1 : x = nI 1
    · rw [x1]
      exact ⟨_, _, _, _, _, (fun l D ca N ad B tR tK f dd hN z zn tb hR => k_X5_digest_a1 l D ca N ad B tR tK f dd hN n g z zn tb hR b4), (fun l D ca N ad B tR tK f dd hN z zn tb hR => k_X6_digest_a1 l D ca N ad B tR tK f dd hN n' g' z zn tb hR (by omega)), m_dig1 (m_thr h 0)⟩
    · have ho : x < nI 0 ∨ nI 1 < x := by
        rcases pk_ix x (n := 2) (by omega) with q | q | ⟨j, hj, q⟩
        · exact Or.inl q
        · exact Or.inr (up_lt q (by omega) (by omega))
        · rcases (show j = 0 ∨ j = 1 by omega) with rfl | rfl
          · exact absurd q x0
          · exact absurd q x1
      exact ⟨_, _, _, _, _, (fun l D ca N ad B tR tK f dd hN z zn tb hR => k_X5_digest_no l D ca N ad B tR tK f dd hN n g z zn tb hR x x0 x1), (fun l D ca N ad B tR tK f dd hN z zn tb hR => k_X6_digest_no l D ca N ad B tR tK f dd hN n' g' z zn tb hR x ho), m_thr h 0⟩
theorem s_alter {n n' : Nat → Nat} {g g' : Nat → Nat → Int32} (h : Rel n g n' g') (x : Int32) (y : Int32) (w : Int32) : ∃ (r : Int32) (n1 : Nat → Nat) (g1 : Nat → Nat → Int32) (n1' : Nat → Nat) (g1' : Nat → Nat → Int32), stX yX5_alter wsX5_alter rmX5_alter [.int x, .int y, .int w] n g r n1 g1 ∧ stM yX6_alter wsX6_alter rmX6_alter [.int x, .int y, .int w] n' g' r n1' g1' ∧ Rel n1 g1 n1' g1' := by
  obtain ⟨e0, e1, e2, e3, e4, e5, b0, b0', b1, b2, b3, b4, b5⟩ := h.1
  have hsz : ∀ i, i < 20 → n (10 + i) ≤ 200 := fun i hi => (h.2.1 i hi).1
  have hz : ∀ i, i < 20 → g' 2 i = nI (n (10 + i)) := fun i hi => (h.2.1 i hi).2
  rcases ix2 x (n 2) (by omega) with h1 | ⟨i, hi, rfl⟩
  · exact ⟨_, _, _, _, _, (fun l D ca N ad B tR tK f dd hN z zn tb hR => k_X5_alter_nofile l D ca N ad B tR tK f dd hN n g z zn tb hR x y w h1), (fun l D ca N ad B tR tK f dd hN z zn tb hR => k_X6_alter_nofile l D ca N ad B tR tK f dd hN n' g' z zn tb hR x y w (by omega) (by rw [← e2]; exact h1)), m_thr h 0⟩
  · rcases ix2 y (n (10 + i)) (by have := hsz i (by omega); omega) with h1 | ⟨j, hj, rfl⟩
    · exact ⟨_, _, _, _, _, (fun l D ca N ad B tR tK f dd hN z zn tb hR => k_X5_alter_nobyte l D ca N ad B tR tK f dd hN n g z zn tb hR i y w b2 hsz hi h1), (fun l D ca N ad B tR tK f dd hN z zn tb hR => k_X6_alter_nobyte l D ca N ad B tR tK f dd hN n' g' z zn tb hR i y w (n (10 + i)) (by omega) (by omega) (hz i (by omega)) (hsz i (by omega)) h1), m_thr h 0⟩
    · refine ⟨_, _, _, _, _, (fun l D ca N ad B tR tK f dd hN z zn tb hR => k_X5_alter_in l D ca N ad B tR tK f dd hN n g z zn tb hR i j w b2 hsz hi hj), ?_, m_alter (m_thr h 0) (i := i) (j := j) (by omega) hj w⟩
      rw [h.2.2.2.1 i (by omega) j hj]
      exact (fun l D ca N ad B tR tK f dd hN z zn tb hR => k_X6_alter_in l D ca N ad B tR tK f dd hN n' g' z zn tb hR i j w (n (10 + i)) (by omega) (by omega) (hz i (by omega)) (hsz i (by omega)) hj)
theorem s_cut {n n' : Nat → Nat} {g g' : Nat → Nat → Int32} (h : Rel n g n' g') (x : Int32) (y : Int32) : ∃ (r : Int32) (n1 : Nat → Nat) (g1 : Nat → Nat → Int32) (n1' : Nat → Nat) (g1' : Nat → Nat → Int32), stX yX5_cut wsX5_cut rmX5_cut [.int x, .int y] n g r n1 g1 ∧ stM yX6_cut wsX6_cut rmX6_cut [.int x, .int y] n' g' r n1' g1' ∧ Rel n1 g1 n1' g1' := by
  obtain ⟨e0, e1, e2, e3, e4, e5, b0, b0', b1, b2, b3, b4, b5⟩ := h.1
  have hsz : ∀ i, i < 20 → n (10 + i) ≤ 200 := fun i hi => (h.2.1 i hi).1
  have hz : ∀ i, i < 20 → g' 2 i = nI (n (10 + i)) := fun i hi => (h.2.1 i hi).2
  rcases ix2 x (n 2) (by omega) with h1 | ⟨i, hi, rfl⟩
  · exact ⟨_, _, _, _, _, (fun l D ca N ad B tR tK f dd hN z zn tb hR => k_X5_cut_nofile l D ca N ad B tR tK f dd hN n g z zn tb hR x y h1), (fun l D ca N ad B tR tK f dd hN z zn tb hR => k_X6_cut_nofile l D ca N ad B tR tK f dd hN n' g' z zn tb hR x y (by omega) (by rw [← e2]; exact h1)), m_thr h 0⟩
  · have hs := hsz i (by omega)
    rcases ix2 y (n (10 + i) + 1) (by omega) with h1 | ⟨j, hj, rfl⟩
    · have h2 : y < 0 ∨ nI (n (10 + i)) < y := h1.elim Or.inl (fun q => Or.inr (up_lt q (by omega) (by omega)))
      exact ⟨_, _, _, _, _, (fun l D ca N ad B tR tK f dd hN z zn tb hR => k_X5_cut_range l D ca N ad B tR tK f dd hN n g z zn tb hR i y b2 hsz hi h2), (fun l D ca N ad B tR tK f dd hN z zn tb hR => k_X6_cut_range l D ca N ad B tR tK f dd hN n' g' z zn tb hR i y (n (10 + i)) (by omega) (by omega) (hz i (by omega)) hs h2), m_thr h 0⟩
    · have hr := m_cut (m_thr h 0) (i := i) (j := j) (by omega) (by omega)
      rcases Nat.lt_or_ge j (n (10 + i)) with h3 | h3
      · exact ⟨_, _, _, _, _, (fun l D ca N ad B tR tK f dd hN z zn tb hR => k_X5_cut_in l D ca N ad B tR tK f dd hN n g z zn tb hR i j b2 hsz hi h3), (fun l D ca N ad B tR tK f dd hN z zn tb hR => k_X6_cut_in l D ca N ad B tR tK f dd hN n' g' z zn tb hR i j (n (10 + i)) (by omega) (by omega) (hz i (by omega)) hs (by omega)), hr⟩
      · have ej : j = n (10 + i) := by omega
        rw [ej, up_same] at hr
        refine ⟨nI 0, n, g, _, _, (fun l D ca N ad B tR tK f dd hN z zn tb hR => k_X5_cut_all l D ca N ad B tR tK f dd hN n g z zn tb hR i j b2 hsz hi ej), ?_, hr⟩
        rw [ej, show nI 0 = nI (n (10 + i) - n (10 + i)) by rw [Nat.sub_self]]
        exact (fun l D ca N ad B tR tK f dd hN z zn tb hR => k_X6_cut_in l D ca N ad B tR tK f dd hN n' g' z zn tb hR i (n (10 + i)) (n (10 + i)) (by omega) (by omega) (hz i (by omega)) hs (by omega))
theorem s_read {n n' : Nat → Nat} {g g' : Nat → Nat → Int32} (h : Rel n g n' g') (x : Int32) (y : Int32) : ∃ (r : Int32) (n1 : Nat → Nat) (g1 : Nat → Nat → Int32) (n1' : Nat → Nat) (g1' : Nat → Nat → Int32), stX yX5_read wsX5_read rmX5_read [.int x, .int y] n g r n1 g1 ∧ stM yX6_read wsX6_read rmX6_read [.int x, .int y] n' g' r n1' g1' ∧ Rel n1 g1 n1' g1' := by
  obtain ⟨e0, e1, e2, e3, e4, e5, b0, b0', b1, b2, b3, b4, b5⟩ := h.1
  have hsz : ∀ i, i < 20 → n (10 + i) ≤ 200 := fun i hi => (h.2.1 i hi).1
  have hz : ∀ i, i < 20 → g' 2 i = nI (n (10 + i)) := fun i hi => (h.2.1 i hi).2
  rcases ix2 x (n 2) (by omega) with h1 | ⟨i, hi, rfl⟩
  · exact ⟨_, _, _, _, _, (fun l D ca N ad B tR tK f dd hN z zn tb hR => k_X5_read_nofile l D ca N ad B tR tK f dd hN n g z zn tb hR x y h1), (fun l D ca N ad B tR tK f dd hN z zn tb hR => k_X6_read_nofile l D ca N ad B tR tK f dd hN n' g' z zn tb hR x y (by omega) (by rw [← e2]; exact h1)), m_thr h 0⟩
  · rcases day3 y with h1 | ⟨j, hj, rfl⟩
    · exact ⟨_, _, _, _, _, (fun l D ca N ad B tR tK f dd hN z zn tb hR => k_X5_read_day l D ca N ad B tR tK f dd hN n g z zn tb hR i y b2 hi h1), (fun l D ca N ad B tR tK f dd hN z zn tb hR => k_X6_read_day l D ca N ad B tR tK f dd hN n' g' z zn tb hR i y (by omega) (by omega) h1), m_thr h 0⟩
    · have hq := fitRel h (i := i) (j := i) (by omega) hi
      have hzn := zN_rel h.2.1 (i := i) (by omega)
      by_cases hf : fitsX n g i i
      · have hfm := hq.mp hf
        have hf' : mFit g' i i (zN g' i) := by rw [hzn]; exact hfm
        rcases Nat.lt_or_ge (n 5) 200 with h6 | h6
        · have hr := (m_chk (m_thr h 0) (i := i) hi (nI j)).1
          rw [(chkG_fit (y := nI j) hf h6).1, (chkG_fit (y := nI j) hf h6).2.1, (mchkG_fit (n := va_up n' 7 0) (y := nI j) hf' (show (va_up n' 7 0) 4 < 200 by rw [va_up_ne _ _ (by decide)]; omega)).1, (mchkG_fit (n := va_up n' 7 0) (y := nI j) hf' (show (va_up n' 7 0) 4 < 200 by rw [va_up_ne _ _ (by decide)]; omega)).2.1] at hr
          exact ⟨_, _, _, _, _, (fun l D ca N ad B tR tK f dd hN z zn tb hR => k_X5_read_fit l D ca N ad B tR tK f dd hN n g z zn tb hR i j b2 hi hj hsz h6 hf), (fun l D ca N ad B tR tK f dd hN z zn tb hR => k_X6_read_fit l D ca N ad B tR tK f dd hN n' g' z zn tb hR i j (n (10 + i)) (by omega) (by omega) hj (hz i (by omega)) (hsz i (by omega)) (by omega) hfm), hr⟩
        · have hr := (m_chk (m_thr h 0) (i := i) hi (nI j)).1
          rw [(chkG_fitF (y := nI j) hf (by omega)).1, (chkG_fitF (y := nI j) hf (by omega)).2.1, (mchkG_fitF (n := va_up n' 7 0) (y := nI j) hf' (show (va_up n' 7 0) 4 = 200 by rw [va_up_ne _ _ (by decide)]; omega)).1, (mchkG_fitF (n := va_up n' 7 0) (y := nI j) hf' (show (va_up n' 7 0) 4 = 200 by rw [va_up_ne _ _ (by decide)]; omega)).2.1] at hr
          exact ⟨_, _, _, _, _, (fun l D ca N ad B tR tK f dd hN z zn tb hR => k_X5_read_fitF l D ca N ad B tR tK f dd hN n g z zn tb hR i j b2 hi hj hsz (by omega) hf), (fun l D ca N ad B tR tK f dd hN z zn tb hR => k_X6_read_fitF l D ca N ad B tR tK f dd hN n' g' z zn tb hR i j (n (10 + i)) (by omega) (by omega) hj (hz i (by omega)) (hsz i (by omega)) (by omega) hfm), hr⟩
      · have hfm : ¬ mFit g' i i (n (10 + i)) := fun q => hf (hq.mpr q)
        have hf' : ¬ mFit g' i i (zN g' i) := by rw [hzn]; exact hfm
        rcases Nat.lt_or_ge (n 5) 200 with h6 | h6
        · have hr := (m_chk (m_thr h 0) (i := i) hi (nI j)).1
          rw [(chkG_no (y := nI j) hf h6).1, (chkG_no (y := nI j) hf h6).2.1, (mchkG_no (n := va_up n' 7 0) (y := nI j) hf' (show (va_up n' 7 0) 4 < 200 by rw [va_up_ne _ _ (by decide)]; omega)).1, (mchkG_no (n := va_up n' 7 0) (y := nI j) hf' (show (va_up n' 7 0) 4 < 200 by rw [va_up_ne _ _ (by decide)]; omega)).2.1] at hr
          exact ⟨_, _, _, _, _, (fun l D ca N ad B tR tK f dd hN z zn tb hR => k_X5_read_no l D ca N ad B tR tK f dd hN n g z zn tb hR i j b2 hi hj hsz h6 hf), (fun l D ca N ad B tR tK f dd hN z zn tb hR => k_X6_read_no l D ca N ad B tR tK f dd hN n' g' z zn tb hR i j (n (10 + i)) (by omega) (by omega) hj (hz i (by omega)) (hsz i (by omega)) (by omega) hfm), hr⟩
        · have hr := (m_chk (m_thr h 0) (i := i) hi (nI j)).1
          rw [(chkG_noF (y := nI j) hf (by omega)).1, (chkG_noF (y := nI j) hf (by omega)).2.1, (mchkG_noF (n := va_up n' 7 0) (y := nI j) hf' (show (va_up n' 7 0) 4 = 200 by rw [va_up_ne _ _ (by decide)]; omega)).1, (mchkG_noF (n := va_up n' 7 0) (y := nI j) hf' (show (va_up n' 7 0) 4 = 200 by rw [va_up_ne _ _ (by decide)]; omega)).2.1] at hr
          exact ⟨_, _, _, _, _, (fun l D ca N ad B tR tK f dd hN z zn tb hR => k_X5_read_noF l D ca N ad B tR tK f dd hN n g z zn tb hR i j b2 hi hj hsz (by omega) hf), (fun l D ca N ad B tR tK f dd hN z zn tb hR => k_X6_read_noF l D ca N ad B tR tK f dd hN n' g' z zn tb hR i j (n (10 + i)) (by omega) (by omega) hj (hz i (by omega)) (hsz i (by omega)) (by omega) hfm), hr⟩
theorem s_schedule {n n' : Nat → Nat} {g g' : Nat → Nat → Int32} (h : Rel n g n' g') (x : Int32) (y : Int32) (w : Int32) : ∃ (r : Int32) (n1 : Nat → Nat) (g1 : Nat → Nat → Int32) (n1' : Nat → Nat) (g1' : Nat → Nat → Int32), stX yX5_schedule wsX5_schedule rmX5_schedule [.int x, .int y, .int w] n g r n1 g1 ∧ stM yX6_schedule wsX6_schedule rmX6_schedule [.int x, .int y, .int w] n' g' r n1' g1' ∧ Rel n1 g1 n1' g1' := by
  obtain ⟨e0, e1, e2, e3, e4, e5, b0, b0', b1, b2, b3, b4, b5⟩ := h.1
  have hsz : ∀ i, i < 20 → n (10 + i) ≤ 200 := fun i hi => (h.2.1 i hi).1
  have hz : ∀ i, i < 20 → g' 2 i = nI (n (10 + i)) := fun i hi => (h.2.1 i hi).2
  rcases ix2 x (n 2) (by omega) with h1 | ⟨i, hi, rfl⟩
  · exact ⟨_, _, _, _, _, (fun l D ca N ad B tR tK f dd hN z zn tb hR => k_X5_schedule_nofile l D ca N ad B tR tK f dd hN n g z zn tb hR x y w h1), (fun l D ca N ad B tR tK f dd hN z zn tb hR => k_X6_schedule_nofile l D ca N ad B tR tK f dd hN n' g' z zn tb hR x y w (by omega) (by rw [← e2]; exact h1)), m_thr h 0⟩
  · rcases day3 y with h1 | ⟨j, hj, rfl⟩
    · exact ⟨_, _, _, _, _, (fun l D ca N ad B tR tK f dd hN z zn tb hR => k_X5_schedule_day l D ca N ad B tR tK f dd hN n g z zn tb hR i y w b2 hi h1), (fun l D ca N ad B tR tK f dd hN z zn tb hR => k_X6_schedule_day l D ca N ad B tR tK f dd hN n' g' z zn tb hR i y w (by omega) (by omega) h1), m_thr h 0⟩
    · have hw : (w < nI 1 ∨ nI 1000 < w) ∨ ∃ k : Nat, 1 ≤ k ∧ k ≤ 1000 ∧ w = nI k := by
        rcases pk_ix w (n := 1001) (by omega) with q | q | ⟨k, hk, q⟩
        · exact Or.inl (Or.inl (Int32.lt_trans q (by decide)))
        · exact Or.inl (Or.inr (up_lt q (by omega) (by omega)))
        · rcases Nat.eq_zero_or_pos k with z | z
          · rw [z] at q
            exact Or.inl (Or.inl (by rw [q]; decide))
          · exact Or.inr ⟨k, z, by omega, q⟩
      rcases hw with h1 | ⟨k, hk1, hk2, rfl⟩
      · exact ⟨_, _, _, _, _, (fun l D ca N ad B tR tK f dd hN z zn tb hR => k_X5_schedule_span l D ca N ad B tR tK f dd hN n g z zn tb hR i j w b2 hi hj h1), (fun l D ca N ad B tR tK f dd hN z zn tb hR => k_X6_schedule_span l D ca N ad B tR tK f dd hN n' g' z zn tb hR i j w (by omega) (by omega) hj h1), m_thr h 0⟩
      · exact ⟨_, _, _, _, _, (fun l D ca N ad B tR tK f dd hN z zn tb hR => k_X5_schedule_in l D ca N ad B tR tK f dd hN n g z zn tb hR i j k b2 hi hj hk1 hk2), (fun l D ca N ad B tR tK f dd hN z zn tb hR => k_X6_schedule_in l D ca N ad B tR tK f dd hN n' g' z zn tb hR i j k (by omega) (by omega) hj hk1 hk2), m_sched (m_thr h 0) (i := i) (a := k) (b := j) (by omega) hk1 hk2 hj⟩
theorem s_due {n n' : Nat → Nat} {g g' : Nat → Nat → Int32} (h : Rel n g n' g') (y : Int32) : ∃ (r : Int32) (n1 : Nat → Nat) (g1 : Nat → Nat → Int32) (n1' : Nat → Nat) (g1' : Nat → Nat → Int32), stX yX5_due wsX5_due rmX5_due [.int y] n g r n1 g1 ∧ stM yX6_due wsX6_due rmX6_due [.int y] n' g' r n1' g1' ∧ Rel n1 g1 n1' g1' := by
  obtain ⟨e0, e1, e2, e3, e4, e5, b0, b0', b1, b2, b3, b4, b5⟩ := h.1
  have hsz : ∀ i, i < 20 → n (10 + i) ≤ 200 := fun i hi => (h.2.1 i hi).1
  have hz : ∀ i, i < 20 → g' 2 i = nI (n (10 + i)) := fun i hi => (h.2.1 i hi).2
  rcases day3 y with h1 | ⟨j, hj, rfl⟩
  · exact ⟨_, _, _, _, _, (fun l D ca N ad B tR tK f dd hN z zn tb hR => k_X5_due_day l D ca N ad B tR tK f dd hN n g z zn tb hR y h1), (fun l D ca N ad B tR tK f dd hN z zn tb hR => k_X6_due_day l D ca N ad B tR tK f dd hN n' g' z zn tb hR y h1), m_thr h 0⟩
  · have hw13 : g 13 0 = g' 13 0 := h.2.2.2.2.2.2.2.2.2
    by_cases ho : nI j < g 13 0
    · exact ⟨_, _, _, _, _, (fun l D ca N ad B tR tK f dd hN z zn tb hR => k_X5_due_state l D ca N ad B tR tK f dd hN n g z zn tb hR j hj ho), (fun l D ca N ad B tR tK f dd hN z zn tb hR => k_X6_due_state l D ca N ad B tR tK f dd hN n' g' z zn tb hR j hj (by rw [← hw13]; exact ho)), m_thr h 0⟩
    · have hr := (m_due h hj (n 0) (Nat.le_refl _)).1
      have hsp : ∀ i, i < 20 → ¬ g' 7 i < 0 → ¬ g' 8 i = 0 := by
        intro i hi q
        obtain ⟨a1, a2, a3, a4, a5⟩ := h.2.2.2.2.2.2.1 i hi
        rw [← a2] at q
        rw [← a3]
        intro z
        exact q ((sch_pos a5).mp (by rw [z]; exact Int32.le_refl 0))
      refine ⟨_, _, _, _, _, (fun l D ca N ad B tR tK f dd hN z zn tb hR => k_X5_due_in l D ca N ad B tR tK f dd hN n g z zn tb hR j hj ho b0' b2 hsz b5), ?_, hr⟩
      rw [due_R h hj, e0]
      exact (fun l D ca N ad B tR tK f dd hN z zn tb hR => k_X6_due_in l D ca N ad B tR tK f dd hN n' g' z zn tb hR j hj (by rw [← hw13]; exact ho) (by omega) (by omega) h.sz (by omega) hsp)
theorem s_told {n n' : Nat → Nat} {g g' : Nat → Nat → Int32} (h : Rel n g n' g') (x : Int32) (y : Int32) : ∃ (r : Int32) (n1 : Nat → Nat) (g1 : Nat → Nat → Int32) (n1' : Nat → Nat) (g1' : Nat → Nat → Int32), stX yX5_told wsX5_told rmX5_told [.int x, .int y] n g r n1 g1 ∧ stM yX6_told wsX6_told rmX6_told [.int x, .int y] n' g' r n1' g1' ∧ Rel n1 g1 n1' g1' := by
  obtain ⟨e0, e1, e2, e3, e4, e5, b0, b0', b1, b2, b3, b4, b5⟩ := h.1
  have hsz : ∀ i, i < 20 → n (10 + i) ≤ 200 := fun i hi => (h.2.1 i hi).1
  have hz : ∀ i, i < 20 → g' 2 i = nI (n (10 + i)) := fun i hi => (h.2.1 i hi).2
  have hT := h.2.2.2.2.2.2.2.1
  rcases ix2 x (n 3) (by omega) with h1 | ⟨i, hi, rfl⟩
  · exact ⟨_, _, _, _, _, (fun l D ca N ad B tR tK f dd hN z zn tb hR => k_X5_told_none l D ca N ad B tR tK f dd hN n g z zn tb hR x y h1), (fun l D ca N ad B tR tK f dd hN z zn tb hR => k_X6_told_none l D ca N ad B tR tK f dd hN n' g' z zn tb hR x y (by omega) (by rw [← e3]; exact h1)), m_thr h 0⟩
  · obtain ⟨t1, t2, t3⟩ := hT i hi
    by_cases y0 : y = nI 0
    · rw [y0]
      refine ⟨_, _, _, _, _, (fun l D ca N ad B tR tK f dd hN z zn tb hR => k_X5_told_w0 l D ca N ad B tR tK f dd hN n g z zn tb hR i b3 hi), ?_, m_thr h 0⟩
      rw [t1]
      exact (fun l D ca N ad B tR tK f dd hN z zn tb hR => k_X6_told_w0 l D ca N ad B tR tK f dd hN n' g' z zn tb hR i (by omega) (by omega))
    · by_cases y1 : y = nI 1
      · rw [y1]
        refine ⟨_, _, _, _, _, (fun l D ca N ad B tR tK f dd hN z zn tb hR => k_X5_told_w1 l D ca N ad B tR tK f dd hN n g z zn tb hR i b3 hi t3), ?_, m_thr h 0⟩
        rw [t2]
        exact (fun l D ca N ad B tR tK f dd hN z zn tb hR => k_X6_told_w1 l D ca N ad B tR tK f dd hN n' g' z zn tb hR i (by omega) (by omega) (by rw [← t2]; exact t3))
      · have ho : y < nI 0 ∨ nI 1 < y := by
          rcases pk_ix y (n := 2) (by omega) with q | q | ⟨j, hj, q⟩
          · exact Or.inl q
          · exact Or.inr (up_lt q (by omega) (by omega))
          · rcases (show j = 0 ∨ j = 1 by omega) with rfl | rfl
            · exact absurd q y0
            · exact absurd q y1
        exact ⟨_, _, _, _, _, (fun l D ca N ad B tR tK f dd hN z zn tb hR => k_X5_told_no l D ca N ad B tR tK f dd hN n g z zn tb hR i y b3 hi y0 y1), (fun l D ca N ad B tR tK f dd hN z zn tb hR => k_X6_told_no l D ca N ad B tR tK f dd hN n' g' z zn tb hR i y (by omega) (by omega) ho), m_thr h 0⟩
theorem s_about {n n' : Nat → Nat} {g g' : Nat → Nat → Int32} (h : Rel n g n' g') (x : Int32) (y : Int32) : ∃ (r : Int32) (n1 : Nat → Nat) (g1 : Nat → Nat → Int32) (n1' : Nat → Nat) (g1' : Nat → Nat → Int32), stX yX5_about wsX5_about rmX5_about [.int x, .int y] n g r n1 g1 ∧ stM yX6_about wsX6_about rmX6_about [.int x, .int y] n' g' r n1' g1' ∧ Rel n1 g1 n1' g1' := by
  obtain ⟨e0, e1, e2, e3, e4, e5, b0, b0', b1, b2, b3, b4, b5⟩ := h.1
  have hsz : ∀ i, i < 20 → n (10 + i) ≤ 200 := fun i hi => (h.2.1 i hi).1
  have hz : ∀ i, i < 20 → g' 2 i = nI (n (10 + i)) := fun i hi => (h.2.1 i hi).2
  rcases ix2 x (n 2) (by omega) with h1 | ⟨i, hi, rfl⟩
  · exact ⟨_, _, _, _, _, (fun l D ca N ad B tR tK f dd hN z zn tb hR => k_X5_about_nofile l D ca N ad B tR tK f dd hN n g z zn tb hR x y h1), (fun l D ca N ad B tR tK f dd hN z zn tb hR => k_X6_about_nofile l D ca N ad B tR tK f dd hN n' g' z zn tb hR x y (by omega) (by rw [← e2]; exact h1)), m_thr h 0⟩
  · obtain ⟨a1, a2, a3, a4, a5⟩ := h.2.2.2.2.2.2.1 i (by omega)
    rcases ix2 y 4 (by omega) with h1 | ⟨k, hk, rfl⟩
    · exact ⟨_, _, _, _, _, (fun l D ca N ad B tR tK f dd hN z zn tb hR => k_X5_about_no l D ca N ad B tR tK f dd hN n g z zn tb hR i y b2 hi (out4 h1)), (fun l D ca N ad B tR tK f dd hN z zn tb hR => k_X6_about_no l D ca N ad B tR tK f dd hN n' g' z zn tb hR i y (by omega) (by omega) (out4 h1)), m_thr h 0⟩
    · rcases (show k = 0 ∨ k = 1 ∨ k = 2 ∨ k = 3 by omega) with rfl | rfl | rfl | rfl
      · refine ⟨_, _, _, _, _, (fun l D ca N ad B tR tK f dd hN z zn tb hR => k_X5_about_w0 l D ca N ad B tR tK f dd hN n g z zn tb hR i b2 hi), ?_, m_thr h 0⟩
        rw [← hz i (by omega)]
        exact (fun l D ca N ad B tR tK f dd hN z zn tb hR => k_X6_about_w0 l D ca N ad B tR tK f dd hN n' g' z zn tb hR i (by omega) (by omega))
      · refine ⟨_, _, _, _, _, (fun l D ca N ad B tR tK f dd hN z zn tb hR => k_X5_about_w1 l D ca N ad B tR tK f dd hN n g z zn tb hR i b2 hi), ?_, m_thr h 0⟩
        rw [a1]
        exact (fun l D ca N ad B tR tK f dd hN z zn tb hR => k_X6_about_w1 l D ca N ad B tR tK f dd hN n' g' z zn tb hR i (by omega) (by omega))
      · refine ⟨_, _, _, _, _, (fun l D ca N ad B tR tK f dd hN z zn tb hR => k_X5_about_w2 l D ca N ad B tR tK f dd hN n g z zn tb hR i b2 hi), ?_, m_thr h 0⟩
        rw [a2]
        exact (fun l D ca N ad B tR tK f dd hN z zn tb hR => k_X6_about_w2 l D ca N ad B tR tK f dd hN n' g' z zn tb hR i (by omega) (by omega))
      · refine ⟨_, _, _, _, _, (fun l D ca N ad B tR tK f dd hN z zn tb hR => k_X5_about_w3 l D ca N ad B tR tK f dd hN n g z zn tb hR i b2 hi), ?_, m_thr h 0⟩
        rw [a4]
        exact (fun l D ca N ad B tR tK f dd hN z zn tb hR => k_X6_about_w3 l D ca N ad B tR tK f dd hN n' g' z zn tb hR i (by omega) (by omega))
theorem s_row {n n' : Nat → Nat} {g g' : Nat → Nat → Int32} (h : Rel n g n' g') (x : Int32) (y : Int32) : ∃ (r : Int32) (n1 : Nat → Nat) (g1 : Nat → Nat → Int32) (n1' : Nat → Nat) (g1' : Nat → Nat → Int32), stX yX5_row wsX5_row rmX5_row [.int x, .int y] n g r n1 g1 ∧ stM yX6_row wsX6_row rmX6_row [.int x, .int y] n' g' r n1' g1' ∧ Rel n1 g1 n1' g1' := by
  obtain ⟨e0, e1, e2, e3, e4, e5, b0, b0', b1, b2, b3, b4, b5⟩ := h.1
  have hsz : ∀ i, i < 20 → n (10 + i) ≤ 200 := fun i hi => (h.2.1 i hi).1
  have hz : ∀ i, i < 20 → g' 2 i = nI (n (10 + i)) := fun i hi => (h.2.1 i hi).2
  rcases ix2 x (n 5) (by omega) with h1 | ⟨i, hi, rfl⟩
  · exact ⟨_, _, _, _, _, (fun l D ca N ad B tR tK f dd hN z zn tb hR => k_X5_row_none l D ca N ad B tR tK f dd hN n g z zn tb hR x y h1), (fun l D ca N ad B tR tK f dd hN z zn tb hR => k_X6_row_none l D ca N ad B tR tK f dd hN n' g' z zn tb hR x y (by omega) (by rw [← e5]; exact h1)), m_thr h 0⟩
  · obtain ⟨a1, a2, a3, a4⟩ := h.2.2.2.2.2.2.2.2.1 i hi
    rcases ix2 y 4 (by omega) with h1 | ⟨k, hk, rfl⟩
    · exact ⟨_, _, _, _, _, (fun l D ca N ad B tR tK f dd hN z zn tb hR => k_X5_row_no l D ca N ad B tR tK f dd hN n g z zn tb hR i y b5 hi (out4 h1)), (fun l D ca N ad B tR tK f dd hN z zn tb hR => k_X6_row_no l D ca N ad B tR tK f dd hN n' g' z zn tb hR i y (by omega) (by omega) (out4 h1)), m_thr h 0⟩
    · rcases (show k = 0 ∨ k = 1 ∨ k = 2 ∨ k = 3 by omega) with rfl | rfl | rfl | rfl
      · refine ⟨_, _, _, _, _, (fun l D ca N ad B tR tK f dd hN z zn tb hR => k_X5_row_w0 l D ca N ad B tR tK f dd hN n g z zn tb hR i b5 hi), ?_, m_thr h 0⟩
        rw [a1]
        exact (fun l D ca N ad B tR tK f dd hN z zn tb hR => k_X6_row_w0 l D ca N ad B tR tK f dd hN n' g' z zn tb hR i (by omega) (by omega))
      · refine ⟨_, _, _, _, _, (fun l D ca N ad B tR tK f dd hN z zn tb hR => k_X5_row_w1 l D ca N ad B tR tK f dd hN n g z zn tb hR i b5 hi), ?_, m_thr h 0⟩
        rw [a2]
        exact (fun l D ca N ad B tR tK f dd hN z zn tb hR => k_X6_row_w1 l D ca N ad B tR tK f dd hN n' g' z zn tb hR i (by omega) (by omega))
      · refine ⟨_, _, _, _, _, (fun l D ca N ad B tR tK f dd hN z zn tb hR => k_X5_row_w2 l D ca N ad B tR tK f dd hN n g z zn tb hR i b5 hi), ?_, m_thr h 0⟩
        rw [a3]
        exact (fun l D ca N ad B tR tK f dd hN z zn tb hR => k_X6_row_w2 l D ca N ad B tR tK f dd hN n' g' z zn tb hR i (by omega) (by omega))
      · refine ⟨_, _, _, _, _, (fun l D ca N ad B tR tK f dd hN z zn tb hR => k_X5_row_w3 l D ca N ad B tR tK f dd hN n g z zn tb hR i b5 hi), ?_, m_thr h 0⟩
        rw [← rw3_word a4]
        exact (fun l D ca N ad B tR tK f dd hN z zn tb hR => k_X6_row_w3 l D ca N ad B tR tK f dd hN n' g' z zn tb hR i (by omega) (by omega))
theorem s_spoil {n n' : Nat → Nat} {g g' : Nat → Nat → Int32} (h : Rel n g n' g') (x : Int32) (y : Int32) : ∃ (r : Int32) (n1 : Nat → Nat) (g1 : Nat → Nat → Int32) (n1' : Nat → Nat) (g1' : Nat → Nat → Int32), stX yX5_spoil wsX5_spoil rmX5_spoil [.int x, .int y] n g r n1 g1 ∧ stM yX6_spoil wsX6_spoil rmX6_spoil [.int x, .int y] n' g' r n1' g1' ∧ Rel n1 g1 n1' g1' := by
  obtain ⟨e0, e1, e2, e3, e4, e5, b0, b0', b1, b2, b3, b4, b5⟩ := h.1
  have hsz : ∀ i, i < 20 → n (10 + i) ≤ 200 := fun i hi => (h.2.1 i hi).1
  have hz : ∀ i, i < 20 → g' 2 i = nI (n (10 + i)) := fun i hi => (h.2.1 i hi).2
  rcases ix2 x (n 5) (by omega) with h1 | ⟨i, hi, rfl⟩
  · exact ⟨_, _, _, _, _, (fun l D ca N ad B tR tK f dd hN z zn tb hR => k_X5_spoil_none l D ca N ad B tR tK f dd hN n g z zn tb hR x y h1), (fun l D ca N ad B tR tK f dd hN z zn tb hR => k_X6_spoil_none l D ca N ad B tR tK f dd hN n' g' z zn tb hR x y (by omega) (by rw [← e5]; exact h1)), m_thr h 0⟩
  · by_cases y0 : y = nI 0
    · rw [y0]
      exact ⟨_, _, _, _, _, (fun l D ca N ad B tR tK f dd hN z zn tb hR => k_X5_spoil_gone l D ca N ad B tR tK f dd hN n g z zn tb hR i b5 hi), (fun l D ca N ad B tR tK f dd hN z zn tb hR => k_X6_spoil_gone l D ca N ad B tR tK f dd hN n' g' z zn tb hR i (by omega) (by omega)), m_gone (m_thr h 0) (i := i) hi⟩
    · exact ⟨_, _, _, _, _, (fun l D ca N ad B tR tK f dd hN z zn tb hR => k_X5_spoil_day l D ca N ad B tR tK f dd hN n g z zn tb hR i y b5 hi y0), (fun l D ca N ad B tR tK f dd hN z zn tb hR => k_X6_spoil_day l D ca N ad B tR tK f dd hN n' g' z zn tb hR i y (by omega) (by omega) y0), m_sday (m_thr h 0) (i := i) hi y⟩
theorem s_chain {n n' : Nat → Nat} {g g' : Nat → Nat → Int32} (h : Rel n g n' g') : ∃ (r : Int32) (n1 : Nat → Nat) (g1 : Nat → Nat → Int32) (n1' : Nat → Nat) (g1' : Nat → Nat → Int32), stX yX5_chain wsX5_chain rmX5_chain [] n g r n1 g1 ∧ stM yX6_chain wsX6_chain rmX6_chain [] n' g' r n1' g1' ∧ Rel n1 g1 n1' g1' := by
  obtain ⟨e0, e1, e2, e3, e4, e5, b0, b0', b1, b2, b3, b4, b5⟩ := h.1
  have hsz : ∀ i, i < 20 → n (10 + i) ≤ 200 := fun i hi => (h.2.1 i hi).1
  have hz : ∀ i, i < 20 → g' 2 i = nI (n (10 + i)) := fun i hi => (h.2.1 i hi).2
  rcases first_of (fun i => ¬ ∀ j, j < 8 → g (1000 + i) j = rowD (prevD (fun i8 => g (1000 + i8)) i) (g 4 i) (g 5 i) (g 6 i) j) (n 5) with hn | ⟨b, hb, hbad, hgood⟩
  · have hall : ∀ i, i < n 5 → ∀ j, j < 8 → g (1000 + i) j = rowD (prevD (fun i8 => g (1000 + i8)) i) (g 4 i) (g 5 i) (g 6 i) j := fun i hi => Classical.byContradiction (hn i hi)
    exact ⟨_, _, _, _, _, (fun l D ca N ad B tR tK f dd hN z zn tb hR => k_X5_chain_none l D ca N ad B tR tK f dd hN n g z zn tb hR b5 hall), (fun l D ca N ad B tR tK f dd hN z zn tb hR => k_X6_chain_none l D ca N ad B tR tK f dd hN n' g' z zn tb hR (by omega) (fun i hi => (chainRel h (by omega)).mp (hall i (by omega)))), m_thr h 0⟩
  · have hall : ∀ i, i < b → ∀ j, j < 8 → g (1000 + i) j = rowD (prevD (fun i8 => g (1000 + i8)) i) (g 4 i) (g 5 i) (g 6 i) j := fun i hi => Classical.byContradiction (hgood i hi)
    have hbx : ∃ j, j < 8 ∧ g (1000 + b) j ≠ rowD (prevD (fun i8 => g (1000 + i8)) b) (g 4 b) (g 5 b) (g 6 b) j := not_all8 hbad
    have hbm : ∃ k, k < 32 ∧ ¬ (jushr (rowS (g' 15) b (g' 11 b) (g' 12 b) (g' 14 b) (k / 4)) (nI (24 - 8 * (k % 4)))).toInt8.toInt32 = g' 15 (32 * b + k) := Classical.byContradiction (fun z => hbad ((chainRel h hb).mpr (fun k hk => Classical.byContradiction (fun q => z ⟨k, hk, q⟩))))
    exact ⟨_, _, _, _, _, (fun l D ca N ad B tR tK f dd hN z zn tb hR => k_X5_chain_some l D ca N ad B tR tK f dd hN n g z zn tb hR b b5 hb hall hbx), (fun l D ca N ad B tR tK f dd hN z zn tb hR => k_X6_chain_some l D ca N ad B tR tK f dd hN n' g' z zn tb hR b (by omega) (by omega) (fun i hi => (chainRel h (by omega)).mp (hall i hi)) hbm), m_thr h 0⟩
theorem s_file {n n' : Nat → Nat} {g g' : Nat → Nat → Int32} (h : Rel n g n' g') (x : Int32) (y : Int32) : ∃ (r : Int32) (n1 : Nat → Nat) (g1 : Nat → Nat → Int32) (n1' : Nat → Nat) (g1' : Nat → Nat → Int32), stX yX5_file wsX5_file rmX5_file [.int x, .int y] n g r n1 g1 ∧ stM yX6_file wsX6_file rmX6_file [.int x, .int y] n' g' r n1' g1' ∧ Rel n1 g1 n1' g1' := by
  obtain ⟨e0, e1, e2, e3, e4, e5, b0, b0', b1, b2, b3, b4, b5⟩ := h.1
  have hsz : ∀ i, i < 20 → n (10 + i) ≤ 200 := fun i hi => (h.2.1 i hi).1
  have hz : ∀ i, i < 20 → g' 2 i = nI (n (10 + i)) := fun i hi => (h.2.1 i hi).2
  have hx : (x < nI 1 ∨ nI 3 < x) ∨ ∃ a : Nat, 1 ≤ a ∧ a ≤ 3 ∧ x = nI a := by
    rcases pk_ix x (n := 4) (by omega) with q | q | ⟨k, hk, q⟩
    · exact Or.inl (Or.inl (Int32.lt_trans q (by decide)))
    · exact Or.inl (Or.inr (up_lt q (by omega) (by omega)))
    · rcases Nat.eq_zero_or_pos k with z | z
      · rw [z] at q
        exact Or.inl (Or.inl (by rw [q]; decide))
      · exact Or.inr ⟨k, z, by omega, q⟩
  rcases hx with h1 | ⟨a, ha1, ha2, rfl⟩
  · exact ⟨_, _, _, _, _, (fun l D ca N ad B tR tK f dd hN z zn tb hR => k_X5_file_range l D ca N ad B tR tK f dd hN n g z zn tb hR x y (h1.elim Or.inl (fun q => Or.inr (Or.inl q)))), (fun l D ca N ad B tR tK f dd hN z zn tb hR => k_X6_file_bits l D ca N ad B tR tK f dd hN n' g' z zn tb hR x y h1), m_thr h 0⟩
  · rcases day3 y with h1 | ⟨j, hj, rfl⟩
    · exact ⟨_, _, _, _, _, (fun l D ca N ad B tR tK f dd hN z zn tb hR => k_X5_file_range l D ca N ad B tR tK f dd hN n g z zn tb hR (nI a) y (Or.inr (Or.inr h1))), (fun l D ca N ad B tR tK f dd hN z zn tb hR => k_X6_file_day l D ca N ad B tR tK f dd hN n' g' z zn tb hR a y ha1 ha2 h1), m_thr h 0⟩
    · rcases Nat.lt_or_ge (n 2) 20 with h2 | h2
      · have hr := m_file (m_thr h 0) h2 (nI a)
        rcases Nat.lt_or_ge (n 5) 200 with h6 | h6
        · have hr2 := m_row hr (by rw [va_up_ne _ _ (by omega), va_up_ne _ _ (by omega), va_up_ne _ _ (by omega)]; exact h6) (nI 0) (nI (n 2)) (nI j)
          rw [rowG_of (n := n) (g := g) (by simp (disch := omega) only [va_up_ne]) (by simp (disch := omega) only [va_up_ne]) (by simp (disch := omega) only [va_up_ne]) (by simp (disch := omega) only [va_up_ne]) (fun i => by simp (disch := omega) only [va_up_ne]), mrowG_of (n' := n') (g := g') (by rfl) (by rfl) (by rfl) (by rfl) (by rfl), ← perm_file g h2, va_up_ne n' _ (by decide), va_up_ne n' _ (by decide)] at hr2
          rw [show va_up (va_up (va_up n 2 (n 2 + 1)) 4 0) (10 + n 2) (n 4) 5 = n 5 by simp (disch := omega) only [va_up_ne], ← va_upC (va_up (va_up n 2 (n 2 + 1)) 4 0) (n 5 + 1) (n 4) (by omega)] at hr2
          refine ⟨_, _, _, _, _, (fun l D ca N ad B tR tK f dd hN z zn tb hR => k_X5_file_in l D ca N ad B tR tK f dd hN n g z zn tb hR a j ha1 ha2 hj h2 b4 hsz h6), ?_, hr2⟩
          rw [e2]
          exact (fun l D ca N ad B tR tK f dd hN z zn tb hR => k_X6_file_in l D ca N ad B tR tK f dd hN n' g' z zn tb hR a j ha1 ha2 hj (by omega) (by omega) (by omega))
        · refine ⟨_, _, _, _, _, (fun l D ca N ad B tR tK f dd hN z zn tb hR => k_X5_file_inF l D ca N ad B tR tK f dd hN n g z zn tb hR a j ha1 ha2 hj h2 b4 hsz (by omega)), ?_, hr⟩
          rw [e2]
          exact (fun l D ca N ad B tR tK f dd hN z zn tb hR => k_X6_file_inF l D ca N ad B tR tK f dd hN n' g' z zn tb hR a j ha1 ha2 hj (by omega) (by omega) (by omega))
      · exact ⟨_, _, _, _, _, (fun l D ca N ad B tR tK f dd hN z zn tb hR => k_X5_file_full l D ca N ad B tR tK f dd hN n g z zn tb hR a j ha1 ha2 hj (by omega)), (fun l D ca N ad B tR tK f dd hN z zn tb hR => k_X6_file_full l D ca N ad B tR tK f dd hN n' g' z zn tb hR a j ha1 ha2 hj (by omega)), m_thr h 0⟩
theorem s_mend {n n' : Nat → Nat} {g g' : Nat → Nat → Int32} (h : Rel n g n' g') (x : Int32) (y : Int32) : ∃ (r : Int32) (n1 : Nat → Nat) (g1 : Nat → Nat → Int32) (n1' : Nat → Nat) (g1' : Nat → Nat → Int32), stX yX5_mend wsX5_mend rmX5_mend [.int x, .int y] n g r n1 g1 ∧ stM yX6_mend wsX6_mend rmX6_mend [.int x, .int y] n' g' r n1' g1' ∧ Rel n1 g1 n1' g1' := by
  obtain ⟨e0, e1, e2, e3, e4, e5, b0, b0', b1, b2, b3, b4, b5⟩ := h.1
  have hsz : ∀ i, i < 20 → n (10 + i) ≤ 200 := fun i hi => (h.2.1 i hi).1
  have hz : ∀ i, i < 20 → g' 2 i = nI (n (10 + i)) := fun i hi => (h.2.1 i hi).2
  rcases ix2 x (n 2) (by omega) with h1 | ⟨i, hi, rfl⟩
  · exact ⟨_, _, _, _, _, (fun l D ca N ad B tR tK f dd hN z zn tb hR => k_X5_mend_nofile l D ca N ad B tR tK f dd hN n g z zn tb hR x y h1), (fun l D ca N ad B tR tK f dd hN z zn tb hR => k_X6_mend_nofile l D ca N ad B tR tK f dd hN n' g' z zn tb hR x y (by omega) (by rw [← e2]; exact h1)), m_thr h 0⟩
  · rcases day3 y with h1 | ⟨j, hj, rfl⟩
    · exact ⟨_, _, _, _, _, (fun l D ca N ad B tR tK f dd hN z zn tb hR => k_X5_mend_day l D ca N ad B tR tK f dd hN n g z zn tb hR i y b2 hi h1), (fun l D ca N ad B tR tK f dd hN z zn tb hR => k_X6_mend_day l D ca N ad B tR tK f dd hN n' g' z zn tb hR i y (by omega) (by omega) h1), m_thr h 0⟩
    · have hq := fitRel h (i := i) (j := i) (by omega) hi
      have hzn := zN_rel h.2.1 (i := i) (by omega)
      by_cases hf : fitsX n g i i
      · exact ⟨_, _, _, _, _, (fun l D ca N ad B tR tK f dd hN z zn tb hR => k_X5_mend_state l D ca N ad B tR tK f dd hN n g z zn tb hR i j b2 hi hj hsz hf), (fun l D ca N ad B tR tK f dd hN z zn tb hR => k_X6_mend_state l D ca N ad B tR tK f dd hN n' g' z zn tb hR i j (by omega) (by omega) hj h.sz (by rw [hzn]; exact hq.mp hf)), m_thr h 0⟩
      · have hf' : ¬ mFit g' i i (zN g' i) := by rw [hzn]; exact fun q => hf (hq.mpr q)
        rcases first_of (fun b => fitsX n g b b ∧ fitsX n g b i) (n 2) with hno | ⟨b, hb, hyes, hno⟩
        · exact ⟨_, _, _, _, _, (fun l D ca N ad B tR tK f dd hN z zn tb hR => k_X5_mend_none l D ca N ad B tR tK f dd hN n g z zn tb hR i j b2 hi hj hsz hf hno), (fun l D ca N ad B tR tK f dd hN z zn tb hR => k_X6_mend_none l D ca N ad B tR tK f dd hN n' g' z zn tb hR i j (by omega) (by omega) hj h.sz hf' (fun b hb => by rw [zN_rel h.2.1 (by omega)]; exact fun q => hno b (by omega) ⟨(fitRel h (by omega) (by omega)).mpr q.1, (fitRel h (by omega) hi).mpr q.2⟩)), m_thr h 0⟩
        · have hib : i ≠ b := fun q => hf (by rw [q]; exact hyes.1)
          have hyes' : mFit g' b b (zN g' b) ∧ mFit g' b i (zN g' b) := by
            rw [zN_rel h.2.1 (by omega)]
            exact ⟨(fitRel h (by omega) hb).mp hyes.1, (fitRel h (by omega) hi).mp hyes.2⟩
          have hno' : ∀ q, q < b → ¬ (mFit g' q q (zN g' q) ∧ mFit g' q i (zN g' q)) := (fun b hb => by rw [zN_rel h.2.1 (by omega)]; exact fun q => hno b hb ⟨(fitRel h (by omega) (by omega)).mpr q.1, (fitRel h (by omega) hi).mpr q.2⟩)
          have hr := m_copy (m_thr h 0) (i := i) (b := b) (by omega) (by omega) hib
          rw [← zN_rel h.2.1 (i := b) (by omega)] at hr
          rcases Nat.lt_or_ge (n 5) 200 with h6 | h6
          · have hr2 := m_row hr (by rw [va_up_ne _ _ (by omega)]; exact h6) (nI 3) (nI i) (nI j)
            rw [rowG_of (n := n) (g := g) (by simp (disch := omega) only [va_up_ne]) (by simp (disch := omega) only [va_up_ne]) (by simp (disch := omega) only [va_up_ne]) (by simp (disch := omega) only [va_up_ne]) (fun q => by simp (disch := omega) only [va_up_ne]), mrowG_of (n' := n') (g := g') (by rfl) (by rfl) (by rfl) (by rfl) (by rfl), ← perm_mend g (by omega : i < 20), va_up_ne n' _ (by decide)] at hr2
            rw [va_up_ne n _ (by omega : 5 ≠ 10 + i), ← va_upC n _ _ (by omega : 5 ≠ 10 + i), zN_rel h.2.1 (i := b) (by omega)] at hr2
            refine ⟨_, _, _, _, _, (fun l D ca N ad B tR tK f dd hN z zn tb hR => k_X5_mend_in l D ca N ad B tR tK f dd hN n g z zn tb hR i j b b2 hi hj hsz hf hb hib hyes hno h6), ?_, hr2⟩
            rw [← zN_rel h.2.1 (i := b) (by omega)]
            exact (fun l D ca N ad B tR tK f dd hN z zn tb hR => k_X6_mend_in l D ca N ad B tR tK f dd hN n' g' z zn tb hR i j b (by omega) (by omega) hj h.sz hf' (by omega) hib hyes' hno' (by omega))
          · rw [zN_rel h.2.1 (i := b) (by omega)] at hr
            refine ⟨_, _, _, _, _, (fun l D ca N ad B tR tK f dd hN z zn tb hR => k_X5_mend_inF l D ca N ad B tR tK f dd hN n g z zn tb hR i j b b2 hi hj hsz hf hb hib hyes hno (by omega)), ?_, hr⟩
            rw [← zN_rel h.2.1 (i := b) (by omega)]
            exact (fun l D ca N ad B tR tK f dd hN z zn tb hR => k_X6_mend_inF l D ca N ad B tR tK f dd hN n' g' z zn tb hR i j b (by omega) (by omega) hj h.sz hf' (by omega) hib hyes' hno' (by omega))
