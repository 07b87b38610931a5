/-! ===== the reference's ALGORITHM 0 is the same ===== -/
def padB (bf : Nat → Int32) (F i : Nat) : Nat → Int32 := fun x => if x = F then (-128) else if F < x ∧ x < i then nI 0 else bf x
theorem padB_0 (bf : Nat → Int32) (F : Nat) : upd bf F (-128) = padB bf F (F + 1) := by
  funext x
  unfold padB
  by_cases h : x = F
  · subst h; rw [pk_us, if_pos rfl]
  · rw [pk_un h, if_neg h, if_neg (by omega)]
theorem padB_s (bf : Nat → Int32) (F i : Nat) (h : F < i) : upd (padB bf F i) i (nI 0) = padB bf F (i + 1) := by
  funext x
  by_cases e : x = i
  · subst e
    rw [pk_us]
    unfold padB
    rw [if_neg (by omega), if_pos (by omega)]
  · rw [pk_un e]
    unfold padB
    by_cases h1 : x = F
    · rw [if_pos h1, if_pos h1]
    · rw [if_neg h1, if_neg h1]
      by_cases h2 : F < x ∧ x < i
      · rw [if_pos h2, if_pos (by omega)]
      · rw [if_neg h2, if_neg (by omega)]
def lby (bits : Int32) (k : Nat) : Int32 := if k < 4 then nI 0 else (jushr bits (nI (8 * (7 - k)))).toInt8.toInt32
def lenB (P : Nat → Int32) (E : Nat) (bits : Int32) (k : Nat) : Nat → Int32 := fun x => if E ≤ x ∧ x < E + k then lby bits (x - E) else P x
theorem lenB_0 (P : Nat → Int32) (E : Nat) (bits : Int32) : lenB P E bits 0 = P := by
  funext x
  exact if_neg (by omega)
theorem lenB_s (P : Nat → Int32) (E : Nat) (bits : Int32) (k : Nat) : upd (lenB P E bits k) (E + k) (lby bits k) = lenB P E bits (k + 1) := by
  funext x
  by_cases e : x = E + k
  · subst e
    rw [pk_us]
    unfold lenB
    rw [if_pos (by omega), Nat.add_sub_cancel_left]
  · rw [pk_un e]
    unfold lenB
    by_cases h : E ≤ x ∧ x < E + k
    · rw [if_pos h, if_pos (by omega)]
    · rw [if_neg h, if_neg (by omega)]
/-- the padded buffer -/
def fB (bf : Nat → Int32) (F : Nat) : Nat → Int32 := lenB (padB bf F (((F + 8) / 64) * 64 + 56)) (((F + 8) / 64) * 64 + 56) (nI (8 * F)) 8
theorem fB_lo {bf : Nat → Int32} {F x : Nat} (h : x < F) : fB bf F x = bf x := by
  unfold fB lenB padB
  rw [if_neg (by omega), if_neg (by omega), if_neg (by omega)]
def mB (b hh ww vv : Nat → Int32) : Nat → (Nat → Int32) × (Nat → Int32) × (Nat → Int32)
  | 0 => (hh, ww, vv)
  | k + 1 => (mixTo (mB b hh ww vv k).1 (rd (mB b hh ww vv k).1 (wM (mB b hh ww vv k).2.1 b (64 * k) 64) 64) 8, wM (mB b hh ww vv k).2.1 b (64 * k) 64, rd (mB b hh ww vv k).1 (wM (mB b hh ww vv k).2.1 b (64 * k) 64) 64)
theorem wM_16 (w b X : Nat → Int32) (fr : Nat) (h : ∀ j, j < 16 → be4 b (fr + 4 * j) = X j) : ∀ t, t ≤ 16 → ∀ j, j < t → wM w b fr t j = X j := by
  intro t
  induction t with
  | zero => intro _ j hj; omega
  | succ t ih =>
    intro ht j hj
    rw [wM_lo _ _ _ _ (by omega)]
    by_cases e : j = t
    · subst e; rw [pk_us, h j (by omega)]
    · rw [pk_un e]; exact ih (by omega) j (by omega)
theorem wM_wid (w b X : Nat → Int32) (fr : Nat) (h : ∀ j, j < 16 → be4 b (fr + 4 * j) = X j) : ∀ n j, j < 16 + n → wM w b fr (16 + n) j = wid X n j := by
  intro n
  induction n with
  | zero => intro j hj; exact wM_16 w b X fr h 16 (Nat.le_refl _) j (by omega)
  | succ n ih =>
    intro j hj
    show wM w b fr (16 + n + 1) j = upd (wid X n) (n + 16) (stW (wid X n) (n + 16)) j
    rw [wM_hi _ _ _ _ (by omega), show n + 16 = 16 + n by omega]
    by_cases e : j = 16 + n
    · subst e
      rw [pk_us, pk_us]
      unfold stW
      rw [ih _ (by omega), ih _ (by omega), ih _ (by omega), ih _ (by omega)]
    · rw [pk_un e, pk_un e]
      exact ih j (by omega)
theorem fB_byte {bf : Nat → Int32} {F x : Nat} (h : x < ((F + 8) / 64) * 64 + 56) : fB bf F x &&& nI 255 = pbyte F (fun i => bf i &&& nI 255) x := by
  unfold fB lenB padB pbyte
  rw [if_neg (by omega)]
  by_cases h1 : x = F
  · rw [if_pos h1, if_pos h1]; decide
  · rw [if_neg h1, if_neg h1]
    by_cases h2 : x < F
    · rw [if_neg (by omega), if_pos h2]
    · rw [if_pos (by omega), if_neg h2]; decide
theorem pw_4 (n : Nat) (g : Nat → Int32) (j : Nat) : pw n g j 4 = pbyte n g j <<< (nI 24 &&& 31) ||| pbyte n g (j + 1) <<< (nI 16 &&& 31) ||| pbyte n g (j + 2) <<< (nI 8 &&& 31) ||| pbyte n g (j + 3) := jn4 _ _ _ _
theorem lby_wb (x : Int32) (k : Nat) (hk : k < 4) : lby x (4 + k) &&& nI 255 = wb x k := by
  unfold lby wb
  rw [if_neg (by omega), i8_255, show 8 * (7 - (4 + k)) = 24 - 8 * k by omega]
theorem lby_lo (x : Int32) (k : Nat) (hk : k < 4) : lby x k &&& nI 255 = nI 0 := by
  unfold lby
  rw [if_pos hk]
  decide
theorem fB_len {bf : Nat → Int32} {F k : Nat} (hk : k < 8) : fB bf F (((F + 8) / 64) * 64 + 56 + k) = lby (nI (8 * F)) k := by
  unfold fB
  show lenB _ _ _ 8 _ = _
  unfold lenB
  rw [if_pos (by omega), Nat.add_sub_cancel_left]
theorem be4_ok (bf w : Nat → Int32) (F b t : Nat) (hb : b < nb F) (ht : t < 16) : be4 (fB bf F) (64 * b + 4 * t) = (if b = nb F - 1 then upd (cpyTo w (bw F (fun i => bf i &&& nI 255) b) 16) 15 (nI (F * 8)) else cpyTo w (bw F (fun i => bf i &&& nI 255) b) 16) t := by
  have hnb : nb F = (F + 8) / 64 + 1 := rfl
  rw [hnb] at hb
  have low : 64 * b + 4 * t + 3 < ((F + 8) / 64) * 64 + 56 → be4 (fB bf F) (64 * b + 4 * t) = bw F (fun i => bf i &&& nI 255) b t := by
    intro h
    unfold be4 bw
    rw [pw_4, fB_byte (by omega), fB_byte (by omega), fB_byte (by omega), fB_byte (by omega), show b * 64 + t * 4 = 64 * b + 4 * t by omega]
  by_cases hl : b = nb F - 1
  · rw [if_pos hl]
    rw [hnb] at hl
    by_cases h15 : t = 15
    · subst h15
      rw [pk_us]
      unfold be4
      rw [show 64 * b + 4 * 15 = ((F + 8) / 64) * 64 + 56 + (4 + 0) by omega, fB_len (by omega), show ((F + 8) / 64) * 64 + 56 + (4 + 0) + 1 = ((F + 8) / 64) * 64 + 56 + (4 + 1) by omega, fB_len (by omega), show ((F + 8) / 64) * 64 + 56 + (4 + 0) + 2 = ((F + 8) / 64) * 64 + 56 + (4 + 2) by omega, fB_len (by omega), show ((F + 8) / 64) * 64 + 56 + (4 + 0) + 3 = ((F + 8) / 64) * 64 + 56 + (4 + 3) by omega, fB_len (by omega), lby_wb _ 0 (by omega), lby_wb _ 1 (by omega), lby_wb _ 2 (by omega), lby_wb _ 3 (by omega), jwb, Nat.mul_comm]
    · rw [pk_un h15, cp_in ht]
      by_cases h14 : t = 14
      · subst h14
        have z : ∀ x, F < x → pbyte F (fun i => bf i &&& nI 255) x = nI 0 := fun x hx => by unfold pbyte; rw [if_neg (by omega), if_neg (by omega)]
        unfold be4 bw
        rw [pw_4, show 64 * b + 4 * 14 = ((F + 8) / 64) * 64 + 56 + 0 by omega, fB_len (by omega), show ((F + 8) / 64) * 64 + 56 + 0 + 1 = ((F + 8) / 64) * 64 + 56 + 1 by omega, fB_len (by omega), show ((F + 8) / 64) * 64 + 56 + 0 + 2 = ((F + 8) / 64) * 64 + 56 + 2 by omega, fB_len (by omega), show ((F + 8) / 64) * 64 + 56 + 0 + 3 = ((F + 8) / 64) * 64 + 56 + 3 by omega, fB_len (by omega), z _ (by omega), z _ (by omega), z _ (by omega), z _ (by omega), lby_lo _ 0 (by omega), lby_lo _ 1 (by omega), lby_lo _ 2 (by omega), lby_lo _ 3 (by omega)]
      · exact low (by omega)
  · rw [if_neg hl, cp_in ht]
    rw [hnb] at hl
    exact low (by omega)
theorem mB_sha (bf hh ww vv w' : Nat → Int32) (F : Nat) (h0 : ∀ j, j < 8 → hh j = shR j) : ∀ k, k ≤ nb F → ∀ j, j < 8 → (mB (fB bf F) hh ww vv k).1 j = (shA F (fun i => bf i &&& nI 255) shR w' k).1 j := by
  intro k
  induction k with
  | zero => intro _ j hj; exact h0 j hj
  | succ k ih =>
    intro hk j hj
    have e := ih (by omega)
    show mixTo _ _ 8 j = mixTo _ _ 8 j
    rw [mixTo_at, mixTo_at, if_pos hj, if_pos hj, e j hj]
    have h9 : rd (mB (fB bf F) hh ww vv k).1 (wM (mB (fB bf F) hh ww vv k).2.1 (fB bf F) (64 * k) 64) 64 j = rd (shA F (fun i => bf i &&& nI 255) shR w' k).1 (bW F (fun i => bf i &&& nI 255) (shA F (fun i => bf i &&& nI 255) shR w' k).2 k) 64 j := rd_ext 64 (Nat.le_refl _) e (fun t ht => by
      unfold bW
      exact wM_wid _ _ _ _ (fun q hq => be4_ok bf (shA F (fun i => bf i &&& nI 255) shR w' k).2 F k q (by omega) hq) 48 t (by omega)) j hj
    rw [h9]
theorem mB_ok (bf hh ww vv : Nat → Int32) (F : Nat) (h0 : ∀ j, j < 8 → hh j = shR j) : ∀ j, j < 8 → (mB (fB bf F) hh ww vv (nb F)).1 j = sha F (fun i => bf i &&& nI 255) j := mB_sha bf hh ww vv (fun _ => 0) F h0 (nb F) (Nat.le_refl _)
/-- the digest's bytes as they are kept -/
def mkf (md S : Nat → Int32) (k : Nat) : Nat → Int32 := fun x => if x < k then (jushr (S (x / 4)) (nI (24 - 8 * (x % 4)))).toInt8.toInt32 else md x
theorem mkf_0 (md S : Nat → Int32) : mkf md S 0 = md := by
  funext x
  exact if_neg (by omega)
theorem mkf_s (md S : Nat → Int32) (k : Nat) : upd (mkf md S k) k (jushr (S (k / 4)) (nI (24 - 8 * (k % 4)))).toInt8.toInt32 = mkf md S (k + 1) := by
  funext x
  by_cases e : x = k
  · subst e
    rw [pk_us]
    exact (if_pos (by omega)).symm
  · rw [pk_un e]
    unfold mkf
    by_cases h : x < k
    · rw [if_pos h, if_pos (by omega)]
    · rw [if_neg h, if_neg (by omega)]
theorem mkf_ext {md S S' : Nat → Int32} (h : ∀ j, j < 8 → S j = S' j) : mkf md S 32 = mkf md S' 32 := by
  funext x
  unfold mkf
  by_cases h1 : x < 32
  · rw [if_pos h1, if_pos h1, h (x / 4) (by omega)]
  · rw [if_neg h1, if_neg h1]
