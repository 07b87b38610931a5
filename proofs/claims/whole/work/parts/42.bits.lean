/-! ===== Int32 by its bits: bt x i ===== -/
def bt (x : Int32) (i : Nat) : Bool := x.toBitVec.getLsbD i
theorem b_ext {x y : Int32} (h : ∀ i, i < 32 → bt x i = bt y i) : x = y := Int32.toBitVec_inj.mp (BitVec.eq_of_getLsbD_eq (fun i hi => h i hi))
theorem b_or (x y : Int32) (i : Nat) : bt (x ||| y) i = (bt x i || bt y i) := by unfold bt; rw [Int32.toBitVec_or, BitVec.getLsbD_or]
theorem b_and (x y : Int32) (i : Nat) : bt (x &&& y) i = (bt x i && bt y i) := by unfold bt; rw [Int32.toBitVec_and, BitVec.getLsbD_and]
theorem b_xor (x y : Int32) (i : Nat) : bt (x ^^^ y) i = (bt x i ^^ bt y i) := by unfold bt; rw [Int32.toBitVec_xor, BitVec.getLsbD_xor]
theorem b_big {x : Int32} {i : Nat} (h : 32 ≤ i) : bt x i = false := BitVec.getLsbD_of_ge _ _ h
theorem b_255 (i : Nat) : bt 255 i = decide (i < 8) := by
  rcases Nat.lt_or_ge i 32 with h | h
  · exact (by decide +kernel : ∀ i, i < 32 → bt 255 i = decide (i < 8)) i h
  · rw [b_big h, decide_eq_false (by omega)]
theorem b_65535 (i : Nat) : bt 65535 i = decide (i < 16) := by
  rcases Nat.lt_or_ge i 32 with h | h
  · exact (by decide +kernel : ∀ i, i < 32 → bt 65535 i = decide (i < 16)) i h
  · rw [b_big h, decide_eq_false (by omega)]
theorem b_m1 : ∀ i, i < 32 → bt (-1) i = true := by decide +kernel
theorem b_0 (i : Nat) : bt 0 i = false := BitVec.getLsbD_zero
theorem s_l : ∀ n, n < 32 → ((nI n &&& 31).toBitVec.smod 32).toNat = n := by decide +kernel
theorem s_u : ∀ n, n < 32 → (((nI n).toUInt32 &&& Int32.toUInt32 31).toBitVec % 32).toNat = n := by decide +kernel
theorem b_shl (n : Nat) (hn : n < 32) (x : Int32) {i : Nat} (hi : i < 32) : bt (x <<< (nI n &&& 31)) i = (decide (n ≤ i) && bt x (i - n)) := by
  unfold bt
  rw [Int32.toBitVec_shiftLeft]
  show (x.toBitVec <<< ((nI n &&& 31).toBitVec.smod 32).toNat).getLsbD i = _
  rw [s_l n hn, BitVec.getLsbD_shiftLeft]
  rcases Nat.lt_or_ge i n with h | h
  · simp [h, Nat.not_le.mpr h]
  · simp [hi, h, Nat.not_lt.mpr h]
theorem b_ushr (n : Nat) (hn : n < 32) (x : Int32) (i : Nat) : bt ((x.toUInt32 >>> ((nI n).toUInt32 &&& Int32.toUInt32 31)).toInt32) i = bt x (n + i) := by
  show (x.toUInt32 >>> ((nI n).toUInt32 &&& Int32.toUInt32 31)).toBitVec.getLsbD i = x.toUInt32.toBitVec.getLsbD (n + i)
  rw [UInt32.toBitVec_shiftRight]
  show (x.toUInt32.toBitVec >>> (((nI n).toUInt32 &&& Int32.toUInt32 31).toBitVec % 32).toNat).getLsbD i = _
  rw [s_u n hn, BitVec.getLsbD_ushiftRight]
theorem b_sshr (n : Nat) (hn : n < 32) (x : Int32) {i : Nat} (hi : i < 32) : bt (x >>> (nI n &&& 31)) i = if n + i < 32 then bt x (n + i) else bt x 31 := by
  unfold bt
  rw [Int32.toBitVec_shiftRight]
  show (x.toBitVec.sshiftRight ((nI n &&& 31).toBitVec.smod 32).toNat).getLsbD i = _
  rw [s_l n hn, BitVec.getLsbD_sshiftRight, BitVec.msb_eq_getLsbD_last]
  simp [hi]
theorem b_shl8 (x : Int32) {i : Nat} (hi : i < 32) : bt (x <<< ((8 : Int32) &&& 31)) i = (decide (8 ≤ i) && bt x (i - 8)) := b_shl 8 (by omega) x hi
theorem b_shl16 (x : Int32) {i : Nat} (hi : i < 32) : bt (x <<< ((16 : Int32) &&& 31)) i = (decide (16 ≤ i) && bt x (i - 16)) := b_shl 16 (by omega) x hi
theorem b_shl24 (x : Int32) {i : Nat} (hi : i < 32) : bt (x <<< ((24 : Int32) &&& 31)) i = (decide (24 ≤ i) && bt x (i - 24)) := b_shl 24 (by omega) x hi
theorem b_sshr8 (x : Int32) {i : Nat} (hi : i < 32) : bt (x >>> ((8 : Int32) &&& 31)) i = if 8 + i < 32 then bt x (8 + i) else bt x 31 := b_sshr 8 (by omega) x hi
/-! ===== bytes and words ===== -/
theorem b_nI255 (i : Nat) : bt (nI 255) i = decide (i < 8) := b_255 i
theorem b_j (n : Nat) (hn : n < 32) (x : Int32) (i : Nat) : bt (jushr x (nI n)) i = bt x (n + i) := b_ushr n hn x i
theorem b_z (i : Nat) : bt (nI 0) i = false := b_0 i
theorem dec_eq {a b : Prop} [Decidable a] [Decidable b] (h : a ↔ b) : decide a = decide b := decide_eq_decide.mpr h
/-- four bytes put together in either way -/
theorem jn4 (a b c d : Int32) : ((((nI 0 <<< (nI 8 &&& 31) ||| a) <<< (nI 8 &&& 31) ||| b) <<< (nI 8 &&& 31) ||| c) <<< (nI 8 &&& 31) ||| d) = a <<< (nI 24 &&& 31) ||| b <<< (nI 16 &&& 31) ||| c <<< (nI 8 &&& 31) ||| d := by
  apply b_ext
  intro i hi
  rw [b_or, b_or, b_or, b_or, b_shl 8 (by omega) _ hi, b_or, b_shl 8 (by omega) _ (show i - 8 < 32 by omega), b_or, b_shl 8 (by omega) _ (show i - 8 - 8 < 32 by omega), b_or, b_shl 8 (by omega) _ (show i - 8 - 8 - 8 < 32 by omega), b_z, b_shl 24 (by omega) _ hi, b_shl 16 (by omega) _ hi, b_shl 8 (by omega) _ hi,
    show i - 8 - 8 - 8 = i - 24 by omega, show i - 8 - 8 = i - 16 by omega, dec_eq (show 8 ≤ i - 8 ↔ 16 ≤ i by omega), dec_eq (show 8 ≤ i - 16 ↔ 24 ≤ i by omega)]
  by_cases h8 : 8 ≤ i
  · by_cases h16 : 16 ≤ i
    · by_cases h24 : 24 ≤ i
      · simp [h8, h16, h24]
      · simp [h8, h16, h24]
    · simp [h8, h16, show ¬ 24 ≤ i by omega]
  · simp [h8, show ¬ 16 ≤ i by omega, show ¬ 24 ≤ i by omega]
theorem wb_bit (x : Int32) (k : Nat) (hk : k < 4) (i : Nat) : bt (wb x k) i = (bt x (24 - 8 * k + i) && decide (i < 8)) := by
  unfold wb
  rw [b_and, b_j (24 - 8 * k) (by omega), b_nI255]
/-- a word out of its bytes -/
theorem jwb (x : Int32) : wb x 0 <<< (nI 24 &&& 31) ||| wb x 1 <<< (nI 16 &&& 31) ||| wb x 2 <<< (nI 8 &&& 31) ||| wb x 3 = x := by
  apply b_ext
  intro i hi
  rw [b_or, b_or, b_or, b_shl 24 (by omega) _ hi, b_shl 16 (by omega) _ hi, b_shl 8 (by omega) _ hi, wb_bit x 0 (by omega), wb_bit x 1 (by omega), wb_bit x 2 (by omega), wb_bit x 3 (by omega)]
  by_cases h8 : 8 ≤ i
  · by_cases h16 : 16 ≤ i
    · by_cases h24 : 24 ≤ i
      · simp [h8, h16, h24, show 24 + (i - 24) = i by omega, show i - 24 < 8 by omega, show ¬ i - 16 < 8 by omega, show ¬ i - 8 < 8 by omega, show ¬ i < 8 by omega]
      · simp [h8, h16, h24, show 16 + (i - 16) = i by omega, show i - 16 < 8 by omega, show ¬ i - 8 < 8 by omega, show ¬ i < 8 by omega]
    · simp [h8, h16, show ¬ 24 ≤ i by omega, show 8 + (i - 8) = i by omega, show i - 8 < 8 by omega, show ¬ i < 8 by omega]
  · simp [h8, show ¬ 16 ≤ i by omega, show ¬ 24 ≤ i by omega, show i < 8 by omega]
theorem wb_inj {x y : Int32} (h : ∀ k, k < 4 → wb x k = wb y k) : x = y := by
  rw [← jwb x, ← jwb y, h 0 (by omega), h 1 (by omega), h 2 (by omega), h 3 (by omega)]
/-- kept bytes: the low eight bits count -/
theorem i8_bit (x : Int32) (i : Nat) (hi : i < 8) : bt x.toInt8.toInt32 i = bt x i := by
  unfold bt
  show ((x.toBitVec.signExtend 8).signExtend 32).getLsbD i = _
  rw [BitVec.getLsbD_signExtend, BitVec.getLsbD_signExtend]
  simp [hi, show i < 32 by omega]
theorem i8_255 (x : Int32) : x.toInt8.toInt32 &&& nI 255 = x &&& nI 255 := by
  apply b_ext
  intro i hi
  rw [b_and, b_and, b_nI255]
  by_cases h : i < 8
  · rw [i8_bit x i h]
  · simp [h]
theorem i8_ext {x y : Int32} (h : ∀ i, i < 8 → bt x i = bt y i) : x.toInt8 = y.toInt8 := by
  apply Int8.toBitVec_inj.mp
  show x.toBitVec.signExtend 8 = y.toBitVec.signExtend 8
  apply BitVec.eq_of_getLsbD_eq
  intro i hi
  rw [BitVec.getLsbD_signExtend, BitVec.getLsbD_signExtend]
  have h9 := h i hi
  unfold bt at h9
  rw [if_pos (show i < 32 by omega), if_pos (show i < 32 by omega), h9]
theorem i8_and (x : Int32) : (x &&& nI 255).toInt8.toInt32 = x.toInt8.toInt32 := by
  rw [i8_ext (x := x &&& nI 255) (y := x) (fun i hi => by rw [b_and, b_nI255]; simp [hi])]
theorem i8_i8 (x : Int32) : x.toInt8.toInt32.toInt8.toInt32 = x.toInt8.toInt32 := by
  rw [i8_ext (x := x.toInt8.toInt32) (y := x) (fun i hi => i8_bit x i hi)]
theorem and255 (x : Int32) : x &&& nI 255 &&& nI 255 = x &&& nI 255 := by
  apply b_ext
  intro i _
  rw [b_and, b_and, b_nI255]
  cases bt x i <;> simp
theorem wb_255 (x : Int32) (k : Nat) : wb x k &&& nI 255 = wb x k := and255 _
/-- kept bytes are equal where the bytes are -/
theorem i8_inj {x y : Int32} (hx : x &&& nI 255 = x) (hy : y &&& nI 255 = y) (h : x.toInt8.toInt32 = y.toInt8.toInt32) : x = y := by
  rw [← hx, ← hy, ← i8_255 x, ← i8_255 y, h]
