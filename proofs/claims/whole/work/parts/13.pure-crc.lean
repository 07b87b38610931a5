/-! ===== ALGORITHM 1 as numbers ===== -/
def crcS (x : Int32) : Int32 := if x &&& nI 1 = 0 then jushr x (nI 1) else jushr x (nI 1) ^^^ (-306674912)
def crcN (x : Int32) : Nat → Int32
  | 0 => x
  | k + 1 => crcS (crcN x k)
/-- a byte more -/
def crcB (r b : Int32) : Int32 := jushr r (nI 8) ^^^ crcN ((r ^^^ b) &&& nI 255) 8
def crcR (g : Nat → Int32) : Nat → Int32
  | 0 => (-1)
  | i + 1 => crcB (crcR g i) (g i)
/-- the digest by ALGORITHM 1 of n bytes g -/
def crc (n : Nat) (g : Nat → Int32) : Int32 := crcR g n ^^^ (-1)
theorem crcR_ext {g g' : Nat → Int32} : ∀ n, (∀ i, i < n → g i = g' i) → crcR g n = crcR g' n := by
  intro n
  induction n with
  | zero => intro _; rfl
  | succ n ih =>
    intro h
    show crcB (crcR g n) (g n) = crcB (crcR g' n) (g' n)
    rw [ih (fun i hi => h i (by omega)), h n (by omega)]
theorem crc_ext {n : Nat} {g g' : Nat → Int32} (h : ∀ i, i < n → g i = g' i) : crc n g = crc n g' := by
  unfold crc
  rw [crcR_ext n h]
