/-! ===== writes one over another ===== -/
theorem up_aa {α : Type} (f : Nat → α) (a : Nat) (x y : α) : va_up (va_up f a x) a y = va_up f a y := bx_uu f a x y
theorem up_aba {α : Type} (f : Nat → α) {a b : Nat} (x y z : α) (h : a ≠ b) : va_up (va_up (va_up f a x) b y) a z = va_up (va_up f a z) b y := by
  funext j
  by_cases h1 : j = a
  · subst h1; rw [va_up_self, va_up_ne _ _ h, va_up_self]
  · by_cases h2 : j = b
    · subst h2; rw [va_up_ne _ _ h1, va_up_self, va_up_self]
    · rw [va_up_ne _ _ h1, va_up_ne _ _ h2, va_up_ne _ _ h1, va_up_ne _ _ h2, va_up_ne _ _ h1]
theorem up_swap {α : Type} (f : Nat → α) {a b : Nat} (x y : α) (h : a ≠ b) : va_up (va_up f a x) b y = va_up (va_up f b y) a x := by
  funext j
  by_cases h1 : j = a
  · subst h1; rw [va_up_ne _ _ h, va_up_self, va_up_self]
  · by_cases h2 : j = b
    · subst h2; rw [va_up_self, va_up_ne _ _ h1, va_up_self]
    · rw [va_up_ne _ _ h2, va_up_ne _ _ h1, va_up_ne _ _ h1, va_up_ne _ _ h2]
theorem up_same {α : Type} (f : Nat → α) (a : Nat) : va_up f a (f a) = f := by
  funext j
  by_cases h : j = a
  · subst h; rw [va_up_self]
  · rw [va_up_ne _ _ h]
/-- the first n of h over g -/
def cpyTo (g h : Nat → Int32) (n : Nat) : Nat → Int32 := fun i => if i < n then h i else g i
theorem cp_0 (g h : Nat → Int32) : cpyTo g h 0 = g := by funext i; simp [cpyTo]
theorem cp_step (g h : Nat → Int32) (n : Nat) : upd (cpyTo g h n) n (h n) = cpyTo g h (n + 1) := by
  funext i
  by_cases e : i = n
  · subst e; simp [cpyTo, pk_us]
  · rw [pk_un e]
    unfold cpyTo
    by_cases h1 : i < n
    · rw [if_pos h1, if_pos (by omega)]
    · rw [if_neg h1, if_neg (by omega)]
theorem cp_in {g h : Nat → Int32} {n i : Nat} (hi : i < n) : cpyTo g h n i = h i := if_pos hi
theorem cp_out {g h : Nat → Int32} {n i : Nat} (hi : n ≤ i) : cpyTo g h n i = g i := if_neg (by omega)
