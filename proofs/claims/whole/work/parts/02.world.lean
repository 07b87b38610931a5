/-! ===== the world as numbered cells: N cells, cell k at ad k, holding f k ===== -/
def wd (N : Nat) (ad : Nat → Nat) (f : Nat → va_E) : va_W := (List.range N).map (fun k => (ad k, f k))
theorem wd_get {N : Nat} {ad : Nat → Nat} {f : Nat → va_E} {k : Nat} (h : k < N) : (wd N ad f)[k]? = some (ad k, f k) := by
  unfold wd
  rw [List.getElem?_map, List.getElem?_range h]
  rfl
theorem wd_len (N : Nat) (ad : Nat → Nat) (f : Nat → va_E) : (wd N ad f).length = N := by simp [wd]
theorem wd_of {N : Nat} {ad : Nat → Nat} {f : Nat → va_E} {k : Nat} {q : Nat × va_E} (h : (wd N ad f)[k]? = some q) : k < N ∧ q = (ad k, f k) := by
  have hk : k < N := by
    have := (List.getElem?_eq_some_iff.mp h).1
    rwa [wd_len] at this
  rw [wd_get hk] at h
  exact ⟨hk, (Option.some.inj h).symm⟩
theorem wd_none {N : Nat} {ad : Nat → Nat} {f : Nat → va_E} {k : Nat} (h : ¬ k < N) : (wd N ad f)[k]? = none := by
  rw [List.getElem?_eq_none_iff, wd_len]
  omega
theorem wd_set (N : Nat) (ad : Nat → Nat) (f : Nat → va_E) (k : Nat) (e : va_E) : (wd N ad f).set k (ad k, e) = wd N ad (va_up f k e) := by
  apply List.ext_getElem?
  intro i
  by_cases hi : i < N
  · rw [List.getElem?_set, wd_get hi, wd_get hi, wd_len]
    by_cases hk : k = i
    · subst hk
      rw [if_pos rfl, if_pos hi, va_up_self]
    · rw [if_neg hk, va_up_ne f e (fun h => hk h.symm)]
  · rw [wd_none hi, List.getElem?_eq_none_iff, List.length_set, wd_len]
    omega
theorem wd_push (N : Nat) (ad : Nat → Nat) (f : Nat → va_E) (q : Nat) (e : va_E) : wd N ad f ++ [(q, e)] = wd (N + 1) (va_up ad N q) (va_up f N e) := by
  apply List.ext_getElem?
  intro i
  by_cases hi : i < N
  · rw [List.getElem?_append_left (by rw [wd_len]; exact hi), wd_get hi, wd_get (Nat.lt_succ_of_lt hi), va_up_ne _ _ (Nat.ne_of_lt hi), va_up_ne _ _ (Nat.ne_of_lt hi)]
  · rw [List.getElem?_append_right (by rw [wd_len]; omega), wd_len]
    by_cases he : i = N
    · subst he
      rw [wd_get (Nat.lt_succ_self i), va_up_self, va_up_self]
      simp
    · rw [wd_none (by omega), List.getElem?_eq_none_iff]
      simp
      omega
/-- the addresses from B on -/
def xA (B : Nat) : Nat → Prop := fun q => B ≤ q
def xD (N : Nat) (ad : Nat → Nat) (B : Nat) : Prop := (∀ i j : Nat, i < N → j < N → ad i = ad j → i = j) ∧ ∀ k : Nat, k < N → B ≤ ad k
theorem xD.va {N : Nat} {ad : Nat → Nat} {B : Nat} (h : xD N ad B) (f : Nat → va_E) : va_D (xA B) (wd N ad f) := by
  refine ⟨fun i j p q hi hj e => ?_, fun k q hk => ?_⟩
  · obtain ⟨a1, a2⟩ := wd_of hi
    obtain ⟨b1, b2⟩ := wd_of hj
    rw [a2, b2] at e
    exact h.1 i j a1 b1 e
  · obtain ⟨a1, a2⟩ := wd_of hk
    rw [a2]
    exact h.2 k a1
def xw (D : va_G) (cl : List vw_C) (N : Nat) (ad : Nat → Nat) (B : Nat) (H0 : Heap) (f : Nat → va_E) (H : Heap) (locs : List Loc) : Prop := va_P D cl (wd N ad f) H ∧ va_S (xA B) H0 H locs
/-- an array of ints (bytes, booleans), of references -/
abbrev ai (c : ClassId) (n : Nat) (g : Nat → Int32) : va_E := .inl (c, n, .inl g)
abbrev aq (c : ClassId) (n : Nat) (g : Nat → Option Nat) : va_E := .inl (c, n, .inr (.inr (.inr (.inr g))))
theorem xw.ext {D : va_G} {cl : List vw_C} {N : Nat} {ad : Nat → Nat} {B : Nat} {H0 : Heap} {f g : Nat → va_E} {H : Heap} {locs : List Loc} (h : xw D cl N ad B H0 f H locs) (e : ∀ k, k < N → f k = g k) : xw D cl N ad B H0 g H locs := by
  have : wd N ad f = wd N ad g := List.map_congr_left (fun k hk => by rw [e k (List.mem_range.mp hk)])
  exact ⟨by rw [← this]; exact h.1, h.2⟩
theorem arrV_ext {c : ClassId} {n : Nat} {g g' : Nat → Value} (h : ∀ j, j < n → g j = g' j) : arrV c n g = arrV c n g' := by
  unfold arrV
  congr 1
  apply Array.ext
  · simp
  · intro i h1 h2
    simp at h1
    simp
    exact h i h1
/-- an array's content counts only below its length -/
theorem xw.arr {D : va_G} {cl : List vw_C} {N : Nat} {ad : Nat → Nat} {B : Nat} {H0 : Heap} {f : Nat → va_E} {H : Heap} {locs : List Loc} {k : Nat} {c : ClassId} {n : Nat} {g g' : Nat → Int32} (h : xw D cl N ad B H0 (va_up f k (ai c n g)) H locs) (e : ∀ j, j < n → g j = g' j) : xw D cl N ad B H0 (va_up f k (ai c n g')) H locs := by
  refine ⟨fun i q hq => ?_, h.2⟩
  obtain ⟨hi, rfl⟩ := wd_of hq
  have h1 := h.1 i _ (wd_get hi)
  by_cases hk : i = k
  · subst hk
    rw [va_up_self] at h1 ⊢
    have h2 : H[ad i]? = some (vp_cell c (n, .inl g)) := h1
    show H[ad i]? = some (vp_cell c (n, .inl g'))
    rw [h2, vp_cell_i, vp_cell_i, arrV_ext (fun j hj => by rw [e j hj])]
  · rw [va_up_ne _ _ hk] at h1 ⊢
    exact h1
