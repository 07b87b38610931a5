/-! ===== ALGORITHM 0 as numbers ===== -/
def rot (x : Int32) (k : Nat) : Int32 := jushr x (nI k) ||| x <<< (nI (32 - k) &&& 31)
def sg0 (x : Int32) : Int32 := rot x 7 ^^^ rot x 18 ^^^ jushr x (nI 3)
def sg1 (x : Int32) : Int32 := rot x 17 ^^^ rot x 19 ^^^ jushr x (nI 10)
def bs0 (x : Int32) : Int32 := rot x 2 ^^^ rot x 13 ^^^ rot x 22
def bs1 (x : Int32) : Int32 := rot x 6 ^^^ rot x 11 ^^^ rot x 25
/-- a word more of the schedule -/
def stW (w : Nat → Int32) (t : Nat) : Int32 := w (t - 16) + sg0 (w (t - 15)) + w (t - 7) + sg1 (w (t - 2))
def wid (w : Nat → Int32) : Nat → Nat → Int32
  | 0 => w
  | n + 1 => upd (wid w n) (n + 16) (stW (wid w n) (n + 16))
theorem wid_step (w : Nat → Int32) (i : Nat) (h : 16 ≤ i) : upd (wid w (i - 16)) i (stW (wid w (i - 16)) i) = wid w (i + 1 - 16) := by
  obtain ⟨k, rfl⟩ : ∃ k, i = k + 16 := ⟨i - 16, by omega⟩
  rw [show k + 16 + 1 - 16 = k + 1 by omega, show k + 16 - 16 = k by omega]
  rfl
/-- one round over a .. h -/
def rT1 (k w : Int32) (v : Nat → Int32) : Int32 := v 7 + bs1 (v 4) + (v 4 &&& v 5 ^^^ (v 4 ^^^ (-1)) &&& v 6) + k + w
def rT2 (v : Nat → Int32) : Int32 := bs0 (v 0) + (v 0 &&& v 1 ^^^ v 0 &&& v 2 ^^^ v 1 &&& v 2)
def rstep (k w : Int32) (v : Nat → Int32) : Nat → Int32 := fun j => match j with
  | 0 => rT1 k w v + rT2 v
  | 1 => v 0
  | 2 => v 1
  | 3 => v 2
  | 4 => v 3 + rT1 k w v
  | 5 => v 4
  | 6 => v 5
  | _ => v 6
def rd (e w : Nat → Int32) : Nat → Nat → Int32
  | 0 => e
  | t + 1 => rstep (shK t) (w t) (rd e w t)
def mixTo (e v : Nat → Int32) : Nat → Nat → Int32
  | 0 => e
  | n + 1 => upd (mixTo e v n) n (mixTo e v n n + v n)
theorem mixTo_at (e v : Nat → Int32) : ∀ n j, mixTo e v n j = if j < n then e j + v j else e j := by
  intro n
  induction n with
  | zero => intro j; simp [mixTo]
  | succ n ih =>
    intro j
    show upd (mixTo e v n) n (mixTo e v n n + v n) j = _
    by_cases h : j = n
    · subst h
      rw [pk_us, ih j, if_neg (by omega), if_pos (by omega)]
    · rw [pk_un h, ih j]
      by_cases h1 : j < n
      · rw [if_pos h1, if_pos (by omega)]
      · rw [if_neg h1, if_neg (by omega)]
/-- the padded row's byte i, but for the bits' number; four of them a word -/
def pbyte (n : Nat) (g : Nat → Int32) (i : Nat) : Int32 := if i = n then nI 128 else if i < n then g i else nI 0
def pw (n : Nat) (g : Nat → Int32) (j : Nat) : Nat → Int32
  | 0 => nI 0
  | k + 1 => pw n g j k <<< (nI 8 &&& 31) ||| pbyte n g (j + k)
theorem pw_eq (n : Nat) (g : Nat → Int32) (j k : Nat) (h : j + k = n) : pw n g j (k + 1) = pw n g j k <<< (nI 8 &&& 31) ||| nI 128 := by
  show _ ||| pbyte n g (j + k) = _
  rw [pbyte, if_pos h]
theorem pw_in (n : Nat) (g : Nat → Int32) (j k : Nat) (h : j + k < n) : pw n g j (k + 1) = pw n g j k <<< (nI 8 &&& 31) ||| g (j + k) := by
  show _ ||| pbyte n g (j + k) = _
  rw [pbyte, if_neg (by omega), if_pos h]
theorem pw_out (n : Nat) (g : Nat → Int32) (j k : Nat) (h : n < j + k) : pw n g j (k + 1) = pw n g j k <<< (nI 8 &&& 31) ||| nI 0 := by
  show _ ||| pbyte n g (j + k) = _
  rw [pbyte, if_neg (by omega), if_neg (by omega)]
/-- the sixteen words of block b -/
def bw (n : Nat) (g : Nat → Int32) (b : Nat) (t : Nat) : Int32 := pw n g (b * 64 + t * 4) 4
def nb (n : Nat) : Nat := (n + 8) / 64 + 1
/-- the schedule of block b, over what w held -/
def bW (n : Nat) (g w : Nat → Int32) (b : Nat) : Nat → Int32 := wid (if b = nb n - 1 then upd (cpyTo w (bw n g b) 16) 15 (nI (n * 8)) else cpyTo w (bw n g b) 16) 48
def shA (n : Nat) (g e w : Nat → Int32) : Nat → (Nat → Int32) × (Nat → Int32)
  | 0 => (e, w)
  | b + 1 => (mixTo (shA n g e w b).1 (rd (shA n g e w b).1 (bW n g (shA n g e w b).2 b) 64) 8, bW n g (shA n g e w b).2 b)
/-- the digest by ALGORITHM 0 of n bytes g -/
def sha (n : Nat) (g : Nat → Int32) : Nat → Int32 := (shA n g shR (fun _ => 0) (nb n)).1
theorem wid_ext {w w' : Nat → Int32} : ∀ n, (∀ j, j < 16 → w j = w' j) → ∀ j, j < 16 + n → wid w n j = wid w' n j := by
  intro n
  induction n with
  | zero => intro h j hj; exact h j (by omega)
  | succ n ih =>
    intro h j hj
    show upd (wid w n) (n + 16) (stW (wid w n) (n + 16)) j = upd (wid w' n) (n + 16) (stW (wid w' n) (n + 16)) j
    by_cases e : j = n + 16
    · subst e
      rw [pk_us, pk_us]
      unfold stW
      rw [ih h _ (by omega), ih h _ (by omega), ih h _ (by omega), ih h _ (by omega)]
    · rw [pk_un e, pk_un e]
      exact ih h j (by omega)
theorem rstep_ext {k w : Int32} {v v' : Nat → Int32} (h : ∀ j, j < 8 → v j = v' j) : ∀ j, j < 8 → rstep k w v j = rstep k w v' j := by
  intro j hj
  have e0 := h 0 (by omega); have e1 := h 1 (by omega); have e2 := h 2 (by omega); have e3 := h 3 (by omega)
  have e4 := h 4 (by omega); have e5 := h 5 (by omega); have e6 := h 6 (by omega); have e7 := h 7 (by omega)
  rcases (show j = 0 ∨ j = 1 ∨ j = 2 ∨ j = 3 ∨ j = 4 ∨ j = 5 ∨ j = 6 ∨ j = 7 by omega) with rfl | rfl | rfl | rfl | rfl | rfl | rfl | rfl <;>
    simp only [rstep, rT1, rT2, e0, e1, e2, e3, e4, e5, e6, e7]
theorem rd_ext {e e' w w' : Nat → Int32} : ∀ n, n ≤ 64 → (∀ j, j < 8 → e j = e' j) → (∀ j, j < 64 → w j = w' j) → ∀ j, j < 8 → rd e w n j = rd e' w' n j := by
  intro n
  induction n with
  | zero => intro _ h _ j hj; exact h j hj
  | succ n ih =>
    intro hn h hw j hj
    show rstep (shK n) (w n) (rd e w n) j = rstep (shK n) (w' n) (rd e' w' n) j
    rw [hw n (by omega)]
    exact rstep_ext (ih (by omega) h hw) j hj
theorem bW_ext (n : Nat) (g w w' : Nat → Int32) (b : Nat) : ∀ j, j < 64 → bW n g w b j = bW n g w' b j := by
  intro j hj
  refine wid_ext 48 (fun i hi => ?_) j (by omega)
  by_cases h : b = nb n - 1
  · rw [if_pos h, if_pos h]
    by_cases h1 : i = 15
    · subst h1; rw [pk_us, pk_us]
    · rw [pk_un h1, pk_un h1, cp_in hi, cp_in hi]
  · rw [if_neg h, if_neg h, cp_in hi, cp_in hi]
theorem shA_ext {n : Nat} {g e e' w w' : Nat → Int32} (h : ∀ j, j < 8 → e j = e' j) : ∀ b, ∀ j, j < 8 → (shA n g e w b).1 j = (shA n g e' w' b).1 j := by
  intro b
  induction b with
  | zero => exact h
  | succ b ih =>
    intro j hj
    show mixTo _ _ 8 j = mixTo _ _ 8 j
    rw [mixTo_at, mixTo_at, if_pos hj, if_pos hj, ih j hj, rd_ext 64 (Nat.le_refl _) ih (bW_ext n g _ _ b) j hj]
theorem sha_of {n : Nat} {g e w : Nat → Int32} (h : ∀ j, j < 8 → e j = shR j) : ∀ j, j < 8 → (shA n g e w (nb n)).1 j = sha n g j := shA_ext h (nb n)
theorem pbyte_ext {n : Nat} {g g' : Nat → Int32} (h : ∀ i, i < n → g i = g' i) (i : Nat) : pbyte n g i = pbyte n g' i := by
  unfold pbyte
  by_cases h1 : i = n
  · rw [if_pos h1, if_pos h1]
  · rw [if_neg h1, if_neg h1]
    by_cases h2 : i < n
    · rw [if_pos h2, if_pos h2, h i h2]
    · rw [if_neg h2, if_neg h2]
theorem pw_ext {n : Nat} {g g' : Nat → Int32} (h : ∀ i, i < n → g i = g' i) (j : Nat) : ∀ k, pw n g j k = pw n g' j k := by
  intro k
  induction k with
  | zero => rfl
  | succ k ih =>
    show pw n g j k <<< _ ||| pbyte n g (j + k) = pw n g' j k <<< _ ||| pbyte n g' (j + k)
    rw [ih, pbyte_ext h]
/-- the digest looks at the n bytes alone -/
theorem sha_ext {n : Nat} {g g' : Nat → Int32} (h : ∀ i, i < n → g i = g' i) : sha n g = sha n g' := by
  have hb : ∀ b, bw n g b = bw n g' b := fun b => funext fun t => pw_ext h _ 4
  have hW : ∀ w b, bW n g w b = bW n g' w b := fun w b => by unfold bW; rw [hb]
  have : ∀ b, shA n g shR (fun _ => 0) b = shA n g' shR (fun _ => 0) b := by
    intro b
    induction b with
    | zero => rfl
    | succ b ih =>
      show (mixTo _ _ 8, bW n g _ b) = (mixTo _ _ 8, bW n g' _ b)
      rw [ih, hW]
  unfold sha
  rw [this]
/-! ===== words as bytes ===== -/
/-- four bytes more at k -/
def pwr (g : Nat → Int32) (k : Nat) (x : Int32) : Nat → Int32 := upd (upd (upd (upd g k (jushr x (nI 24) &&& nI 255)) (k + 1) (jushr x (nI 16) &&& nI 255)) (k + 1 + 1) (jushr x (nI 8) &&& nI 255)) (k + 1 + 1 + 1) (jushr x (nI 0) &&& nI 255)
def swr (g W : Nat → Int32) : Nat → Nat → Int32
  | 0 => g
  | i + 1 => pwr (swr g W i) (4 * i) (W i)
theorem swr_step (g W : Nat → Int32) (i : Nat) (x : Int32) (h : W i = x) : pwr (swr g W i) (4 * i) x = swr g W (i + 1) := by rw [← h]; rfl
/-- byte k of a word, the highest first -/
def wb (x : Int32) (k : Nat) : Int32 := jushr x (nI (24 - 8 * k)) &&& nI 255
def sb (W : Nat → Int32) (i : Nat) : Int32 := wb (W (i / 4)) (i % 4)
theorem pwr_at (g : Nat → Int32) (k : Nat) (x : Int32) (i : Nat) : pwr g k x i = if i < k then g i else if i < k + 4 then wb x (i - k) else g i := by
  unfold pwr
  by_cases h : i < k
  · rw [if_pos h, pk_un (by omega), pk_un (by omega), pk_un (by omega), pk_un (by omega)]
  · rw [if_neg h]
    by_cases h2 : i < k + 4
    · rw [if_pos h2]
      rcases (show i = k ∨ i = k + 1 ∨ i = k + 2 ∨ i = k + 3 by omega) with rfl | rfl | rfl | rfl
      · rw [pk_un (by omega), pk_un (by omega), pk_un (by omega), pk_us, Nat.sub_self]; rfl
      · rw [pk_un (by omega), pk_un (by omega), pk_us, Nat.add_sub_cancel_left]; rfl
      · rw [pk_un (by omega), pk_us, Nat.add_sub_cancel_left]; rfl
      · rw [pk_us, Nat.add_sub_cancel_left]; rfl
    · rw [if_neg h2, pk_un (by omega), pk_un (by omega), pk_un (by omega), pk_un (by omega)]
theorem swr_at (g W : Nat → Int32) : ∀ n i, i < 4 * n → swr g W n i = sb W i := by
  intro n
  induction n with
  | zero => intro i h; omega
  | succ n ih =>
    intro i h
    show pwr (swr g W n) (4 * n) (W n) i = _
    rw [pwr_at]
    by_cases h1 : i < 4 * n
    · rw [if_pos h1, ih i h1]
    · rw [if_neg h1, if_pos (by omega)]
      unfold sb
      rw [show i / 4 = n by omega, show i % 4 = i - 4 * n by omega]
/-- a row of THE CHAIN: its eleven words, its digest -/
def rowW (p : Nat → Int32) (a b c : Int32) (k : Nat) : Int32 := if k < 8 then p k else if k = 8 then a else if k = 9 then b else c
def rowD (p : Nat → Int32) (a b c : Int32) : Nat → Int32 := sha 44 (sb (rowW p a b c))
def prevD (M : Nat → Nat → Int32) (i : Nat) : Nat → Int32 := fun k => if i = 0 then nI 0 else M (i - 1) k
theorem rowW_lt {p : Nat → Int32} {a b c : Int32} {k : Nat} (h : k < 8) : rowW p a b c k = p k := if_pos h
theorem prevD_0 {M : Nat → Nat → Int32} {i k : Nat} (h : i = 0) : prevD M i k = nI 0 := if_pos h
theorem prevD_s {M : Nat → Nat → Int32} {i k : Nat} (h : 0 < i) : prevD M i k = M (i - 1) k := if_neg (by omega)
theorem rowD_of {g p : Nat → Int32} {a b c : Int32} : sha 44 (swr g (rowW p a b c) 11) = rowD p a b c := sha_ext (fun i hi => swr_at g _ 11 i (by omega))
theorem sb_ext {W W' : Nat → Int32} {n : Nat} (h : ∀ k, k < n → W k = W' k) : ∀ i, i < 4 * n → sb W i = sb W' i := by
  intro i hi
  unfold sb
  rw [h (i / 4) (by omega)]
theorem rowD_ext {p p' : Nat → Int32} (h : ∀ k, k < 8 → p k = p' k) (a b c : Int32) : rowD p a b c = rowD p' a b c := by
  refine sha_ext (fun i hi => sb_ext (n := 11) (fun k _ => ?_) i (by omega))
  unfold rowW
  by_cases h1 : k < 8
  · rw [if_pos h1, if_pos h1, h k h1]
  · rw [if_neg h1, if_neg h1]
