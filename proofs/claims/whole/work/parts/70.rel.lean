/-! ===== ALGORITHM 1 by table and bit by bit ===== -/
theorem bit1 : ∀ i, i < 32 → 0 < i → bt (nI 1) i = false := by decide +kernel
theorem bit10 : bt (nI 1) 0 = true := by decide +kernel
theorem and1_bt (x : Int32) : x &&& nI 1 = 0 ↔ bt x 0 = false := by
  constructor
  · intro h
    have h1 := congrArg (fun z => bt z 0) h
    simp only [b_and, bit10, Bool.and_true, b_0] at h1
    exact h1
  · intro h
    refine b_ext (fun i hi => ?_)
    rw [b_and, b_0]
    by_cases h0 : i = 0
    · rw [h0, h, Bool.false_and]
    · rw [bit1 i hi (by omega), Bool.and_false]
theorem crcS_bt (x : Int32) {i : Nat} (hi : i < 32) : bt (crcS x) i = (bt x (1 + i) ^^ (bt x 0 && bt (-306674912) i)) := by
  unfold crcS
  by_cases h : x &&& nI 1 = 0
  · rw [if_pos h, b_j 1 (by omega), (and1_bt x).mp h, Bool.false_and, Bool.xor_false]
  · have h1 : bt x 0 = true := by
      cases e : bt x 0 with
      | false => exact absurd ((and1_bt x).mpr e) h
      | true => rfl
    rw [if_neg h, b_xor, b_j 1 (by omega), h1, Bool.true_and]
theorem xor4 (a b c d p : Bool) : ((a ^^ b) ^^ ((c ^^ d) && p)) = ((a ^^ (c && p)) ^^ (b ^^ (d && p))) := by
  cases a <;> cases b <;> cases c <;> cases d <;> cases p <;> rfl
theorem crcS_x (x y : Int32) : crcS (x ^^^ y) = crcS x ^^^ crcS y := by
  refine b_ext (fun i hi => ?_)
  rw [b_xor, crcS_bt _ hi, crcS_bt _ hi, crcS_bt _ hi, b_xor, b_xor]
  exact xor4 _ _ _ _ _
theorem crcN_x (x y : Int32) : ∀ k, crcN (x ^^^ y) k = crcN x k ^^^ crcN y k := by
  intro k
  induction k with
  | zero => rfl
  | succ k ih =>
    show crcS (crcN (x ^^^ y) k) = crcS (crcN x k) ^^^ crcS (crcN y k)
    rw [ih, crcS_x]
theorem crcN_hi (x : Int32) : ∀ k, k < 32 → (∀ i, i < k → bt x i = false) → crcN x k = jushr x (nI k) := by
  intro k
  induction k with
  | zero =>
    intro _ _
    refine b_ext (fun i hi => ?_)
    rw [b_j 0 (by omega), Nat.zero_add]
    rfl
  | succ k ih =>
    intro hk h
    show crcS (crcN x k) = _
    rw [ih (by omega) (fun i hi => h i (by omega))]
    refine b_ext (fun i hi => ?_)
    rw [crcS_bt _ hi, b_j k (by omega), b_j k (by omega), b_j (k + 1) hk, Nat.add_zero, h k (by omega), Bool.false_and, Bool.xor_false, show k + (1 + i) = k + 1 + i by omega]
theorem xor_self3 (u v : Bool) : ((u && v) ^^ (u ^^ (u && v))) = u := by
  cases u <;> cases v <;> rfl
theorem crcB_N (r b : Int32) (hb : b &&& nI 255 = b) : crcN (r ^^^ b) 8 = crcB r b := by
  have e1 : r ^^^ b = ((r ^^^ b) &&& nI 255) ^^^ ((r ^^^ b) ^^^ ((r ^^^ b) &&& nI 255)) := by
    refine b_ext (fun i hi => ?_)
    rw [b_xor ((r ^^^ b) &&& nI 255), b_xor (r ^^^ b), b_and]
    exact (xor_self3 _ _).symm
  have e2 : crcN ((r ^^^ b) ^^^ ((r ^^^ b) &&& nI 255)) 8 = jushr ((r ^^^ b) ^^^ ((r ^^^ b) &&& nI 255)) (nI 8) := by
    refine crcN_hi _ 8 (by omega) (fun i hi => ?_)
    rw [b_xor (r ^^^ b), b_and, b_nI255, decide_eq_true (show i < 8 by omega), Bool.and_true, Bool.xor_self]
  have e3 : jushr ((r ^^^ b) ^^^ ((r ^^^ b) &&& nI 255)) (nI 8) = jushr r (nI 8) := by
    refine b_ext (fun i hi => ?_)
    rw [b_j 8 (by omega), b_j 8 (by omega), b_xor (r ^^^ b), b_and, b_nI255, decide_eq_false (show ¬ 8 + i < 8 by omega), Bool.and_false, Bool.xor_false, b_xor]
    have h1 : bt b (8 + i) = false := by
      rw [← hb, b_and, b_nI255, decide_eq_false (show ¬ 8 + i < 8 by omega), Bool.and_false]
    rw [h1, Bool.xor_false]
  calc crcN (r ^^^ b) 8 = crcN (((r ^^^ b) &&& nI 255) ^^^ ((r ^^^ b) ^^^ ((r ^^^ b) &&& nI 255))) 8 := congrArg (fun z => crcN z 8) e1
    _ = crcN ((r ^^^ b) &&& nI 255) 8 ^^^ crcN ((r ^^^ b) ^^^ ((r ^^^ b) &&& nI 255)) 8 := crcN_x _ _ 8
    _ = crcN ((r ^^^ b) &&& nI 255) 8 ^^^ jushr r (nI 8) := by rw [e2, e3]
    _ = crcB r b := Int32.xor_comm _ _
theorem crM_R (b : Nat → Int32) : ∀ n, crM b n = crcR (fun x => b x &&& nI 255) n := by
  intro n
  induction n with
  | zero => rfl
  | succ n ih =>
    show crcN (crM b n ^^^ (b n &&& nI 255)) 8 = crcB (crcR (fun x => b x &&& nI 255) n) (b n &&& nI 255)
    rw [ih]
    exact crcB_N _ _ (and255 _)
theorem crM_crc {b g : Nat → Int32} {n : Nat} (h : ∀ i, i < n → g i = b i &&& nI 255) : crM b n ^^^ (-1) = crc n g := by
  rw [crM_R]
  show crc n (fun x => b x &&& nI 255) = crc n g
  exact (crc_ext h).symm
theorem sha_rel {b g : Nat → Int32} {n : Nat} (h : ∀ i, i < n → g i = b i &&& nI 255) : sha n (fun x => b x &&& nI 255) = sha n g := (sha_ext h).symm
/-! ===== bytes of words ===== -/
def sby (S : Nat → Int32) (k : Nat) : Int32 := (jushr (S (k / 4)) (nI (24 - 8 * (k % 4)))).toInt8.toInt32
theorem by_wb (x : Int32) (k : Nat) : (jushr x (nI (24 - 8 * k))).toInt8.toInt32 &&& nI 255 = wb x k := i8_255 _
theorem by_inj {x y : Int32} (h : ∀ k, k < 4 → (jushr x (nI (24 - 8 * k))).toInt8.toInt32 = (jushr y (nI (24 - 8 * k))).toInt8.toInt32) : x = y := wb_inj (fun k hk => by rw [← by_wb, ← by_wb, h k hk])
theorem sby_at (S : Nat → Int32) (j k : Nat) (hk : k < 4) : sby S (4 * j + k) = (jushr (S j) (nI (24 - 8 * k))).toInt8.toInt32 := by
  unfold sby
  rw [show (4 * j + k) / 4 = j by omega, show (4 * j + k) % 4 = k by omega]
theorem sby_inj {S S' : Nat → Int32} (h : ∀ k, k < 32 → sby S k = sby S' k) : ∀ j, j < 8 → S j = S' j := fun j hj => by_inj (fun k hk => by rw [← sby_at S j k hk, ← sby_at S' j k hk]; exact h _ (by omega))
theorem sby_ext {S S' : Nat → Int32} (h : ∀ j, j < 8 → S j = S' j) : ∀ k, k < 32 → sby S k = sby S' k := fun k hk => by unfold sby; rw [h _ (by omega)]
theorem sby_255 (S : Nat → Int32) (k : Nat) : sby S k &&& nI 255 = wb (S (k / 4)) (k % 4) := by_wb _ _
theorem sby_i8 (S : Nat → Int32) (k : Nat) : (sby S k).toInt8.toInt32 = sby S k := i8_i8 _
theorem dgb_sby (S : Nat → Int32) (C : Int32) {k : Nat} (h : k < 32) : dgb S C k = sby S k := if_pos h
theorem dgb_C (S : Nat → Int32) (C : Int32) {k : Nat} (h : k < 4) : dgb S C (32 + k) = (jushr C (nI (24 - 8 * k))).toInt8.toInt32 := by
  unfold dgb
  rw [if_neg (by omega), show 32 + k - 32 = k by omega]
theorem wb_0 (k : Nat) (hk : k < 4) : wb (nI 0) k = nI 0 &&& nI 255 := by
  refine b_ext (fun i hi => ?_)
  rw [wb_bit _ _ hk, b_and, b_z, b_z, Bool.false_and, Bool.false_and]
theorem nbr_at (g : Nat → Int32) (k : Nat) (x : Int32) (i : Nat) : nbr g k x i = if i < k then g i else if i < k + 4 then (jushr x (nI (24 - 8 * (i - k)))).toInt8.toInt32 else g i := by
  unfold nbr
  by_cases h : i < k
  · rw [if_pos h, pk_un (by omega), pk_un (by omega), pk_un (by omega), pk_un (by omega)]
  · rw [if_neg h]
    by_cases h4 : i < k + 4
    · rw [if_pos h4]
      rcases (show i = k ∨ i = k + 1 ∨ i = k + 1 + 1 ∨ i = k + 1 + 1 + 1 by omega) with e | e | e | e
      · rw [pk_un (by omega), pk_un (by omega), pk_un (by omega), e, pk_us, Nat.sub_self]
      · rw [pk_un (by omega), pk_un (by omega), e, pk_us, show k + 1 - k = 1 by omega]
      · rw [pk_un (by omega), e, pk_us, show k + 1 + 1 - k = 2 by omega]
      · rw [e, pk_us, show k + 1 + 1 + 1 - k = 3 by omega]
    · rw [if_neg h4, pk_un (by omega), pk_un (by omega), pk_un (by omega), pk_un (by omega)]
/-- a row's digest, by bytes and by words -/
theorem rowS_D {rdg : Nat → Int32} {M : Nat → Nat → Int32} {i : Nat} (h : 0 < i → ∀ k, k < 32 → rdg (32 * (i - 1) + k) = sby (M (i - 1)) k) (a b c : Int32) : rowS rdg i a b c = rowD (prevD M i) a b c := by
  refine sha_ext (fun x hx => ?_)
  show chB (fun _ => 0) rdg i a b c x &&& nI 255 = wb (rowW (prevD M i) a b c (x / 4)) (x % 4)
  unfold chB
  rw [nbr_at]
  by_cases h40 : x < 32 + 4 + 4
  · rw [if_pos h40, nbr_at]
    by_cases h36 : x < 32 + 4
    · rw [if_pos h36, nbr_at]
      by_cases h32 : x < 32
      · rw [if_pos h32, cpB_at h32, rowW_lt (by omega)]
        unfold prevB prevD
        by_cases h0 : i = 0
        · rw [if_pos h0, if_pos h0, wb_0 _ (by omega)]
        · rw [if_neg h0, if_neg h0, show 32 * i - 32 + x = 32 * (i - 1) + x by omega, h (by omega) x h32, sby_255]
      · rw [if_neg h32, if_pos h36, by_wb, show x / 4 = 8 by omega, show x % 4 = x - 32 by omega]
        rfl
    · rw [if_neg h36, if_pos (by omega), by_wb, show x / 4 = 9 by omega, show x % 4 = x - (32 + 4) by omega]
      rfl
  · rw [if_neg h40, if_pos (by omega), by_wb, show x / 4 = 10 by omega, show x % 4 = x - (32 + 4 + 4) by omega]
    rfl
theorem rw3_word {r S : Nat → Int32} {i : Nat} (h : ∀ k, k < 32 → r (32 * i + k) = sby S k) : rw3 r i = S 0 := by
  unfold rw3
  rw [jn4, h 0 (by omega), h 1 (by omega), h 2 (by omega), h 3 (by omega), sby_255, sby_255, sby_255, sby_255]
  exact jwb _
/-! ===== the relation ===== -/
def RelN (n n' : Nat → Nat) : Prop := n 0 = n' 0 ∧ n 1 = n' 5 ∧ n 2 = n' 2 ∧ n 3 = n' 3 ∧ n 4 = n' 1 ∧ n 5 = n' 4 ∧ 1 ≤ n 0 ∧ n 0 ≤ 20 ∧ (n 1 = 0 ∨ n 1 = 4 ∨ n 1 = 32) ∧ n 2 ≤ 20 ∧ n 3 ≤ 20 ∧ n 4 ≤ 200 ∧ n 5 ≤ 200
def RelZ (n : Nat → Nat) (g' : Nat → Nat → Int32) : Prop := ∀ i, i < 20 → n (10 + i) ≤ 200 ∧ g' 2 i = nI (n (10 + i))
def RelC (n : Nat → Nat) (g g' : Nat → Nat → Int32) : Prop := ∀ k, k < n 4 → g 0 k = g' 0 k &&& nI 255
def RelB (n : Nat → Nat) (g g' : Nat → Nat → Int32) : Prop := ∀ i, i < 20 → ∀ k, k < n (10 + i) → g (100 + i) k = g' 1 (200 * i + k) &&& nI 255
def RelL (n : Nat → Nat) (g g' : Nat → Nat → Int32) : Prop := ∀ k, k < n 1 → g' 16 k = sby (g 1) k
def RelW (n : Nat → Nat) (g g' : Nat → Nat → Int32) : Prop := ∀ i, i < n 2 → (∀ k, k < 36 → g' 4 (36 * i + k) = dgb (g (200 + i)) (g 7 i) k) ∧ g 8 i = g' 3 i
def schd (s d : Int32) : Prop := (s = 0 ∧ d = -1) ∨ ∃ a b : Nat, 1 ≤ a ∧ a ≤ 1000 ∧ b ≤ 1001000 ∧ s = nI a ∧ d = nI b
def RelS (g g' : Nat → Nat → Int32) : Prop := ∀ i, i < 20 → g 9 i = g' 5 i ∧ g 10 i = g' 7 i ∧ g 11 i = g' 8 i ∧ g 12 i = g' 6 i ∧ schd (g 11 i) (g 10 i)
def RelT (n : Nat → Nat) (g g' : Nat → Nat → Int32) : Prop := ∀ k, k < n 3 → g 2 k = g' 9 k ∧ g 3 k = g' 10 k ∧ (g 3 k = 0 ∨ g 3 k = 1)
def RelR (n : Nat → Nat) (g g' : Nat → Nat → Int32) : Prop := ∀ i, i < n 5 → g 4 i = g' 11 i ∧ g 5 i = g' 12 i ∧ g 6 i = g' 14 i ∧ ∀ k, k < 32 → g' 15 (32 * i + k) = sby (g (1000 + i)) k
def Rel (n : Nat → Nat) (g : Nat → Nat → Int32) (n' : Nat → Nat) (g' : Nat → Nat → Int32) : Prop := RelN n n' ∧ RelZ n g' ∧ RelC n g g' ∧ RelB n g g' ∧ RelL n g g' ∧ RelW n g g' ∧ RelS g g' ∧ RelT n g g' ∧ RelR n g g' ∧ g 13 0 = g' 13 0
section RC
variable {n n1 : Nat → Nat} {g g1 g' g1' : Nat → Nat → Int32}
theorem RelZ.c (h : RelZ n g') (e : ∀ i, i < 20 → n1 (10 + i) = n (10 + i)) (e1 : g1' 2 = g' 2) : RelZ n1 g1' := fun i hi => by rw [e i hi, e1]; exact h i hi
theorem RelC.c (h : RelC n g g') (e : n1 4 = n 4) (e1 : g1 0 = g 0) (e2 : g1' 0 = g' 0) : RelC n1 g1 g1' := fun k hk => by rw [e1, e2]; exact h k (by omega)
theorem RelB.c (h : RelB n g g') (e : ∀ i, i < 20 → n1 (10 + i) = n (10 + i)) (e1 : ∀ i, i < 20 → g1 (100 + i) = g (100 + i)) (e2 : g1' 1 = g' 1) : RelB n1 g1 g1' := fun i hi k hk => by rw [e i hi] at hk; rw [e1 i hi, e2]; exact h i hi k hk
theorem RelL.c (h : RelL n g g') (e : n1 1 = n 1) (e1 : g1 1 = g 1) (e2 : g1' 16 = g' 16) : RelL n1 g1 g1' := fun k hk => by rw [e1, e2]; exact h k (by omega)
theorem RelW.c (h : RelW n g g') (h2 : n 2 ≤ 20) (e : n1 2 = n 2) (e1 : ∀ i, i < 20 → g1 (200 + i) = g (200 + i)) (e2 : g1 7 = g 7) (e3 : g1 8 = g 8) (e4 : g1' 4 = g' 4) (e5 : g1' 3 = g' 3) : RelW n1 g1 g1' := fun i hi => by rw [e1 i (by omega), e2, e3, e4, e5]; exact h i (by omega)
theorem RelS.c (h : RelS g g') (a1 : g1 9 = g 9) (a2 : g1 10 = g 10) (a3 : g1 11 = g 11) (a4 : g1 12 = g 12) (b1 : g1' 5 = g' 5) (b2 : g1' 7 = g' 7) (b3 : g1' 8 = g' 8) (b4 : g1' 6 = g' 6) : RelS g1 g1' := fun i hi => by rw [a1, a2, a3, a4, b1, b2, b3, b4]; exact h i hi
theorem RelT.c (h : RelT n g g') (e : n1 3 = n 3) (e1 : g1 2 = g 2) (e2 : g1 3 = g 3) (e3 : g1' 9 = g' 9) (e4 : g1' 10 = g' 10) : RelT n1 g1 g1' := fun k hk => by rw [e1, e2, e3, e4]; exact h k (by omega)
theorem RelR.c (h : RelR n g g') (h5 : n 5 ≤ 200) (e : n1 5 = n 5) (a1 : g1 4 = g 4) (a2 : g1 5 = g 5) (a3 : g1 6 = g 6) (a4 : ∀ i, i < 200 → g1 (1000 + i) = g (1000 + i)) (b1 : g1' 11 = g' 11) (b2 : g1' 12 = g' 12) (b3 : g1' 14 = g' 14) (b4 : g1' 15 = g' 15) : RelR n1 g1 g1' := fun i hi => by rw [a1, a2, a3, a4 i (by omega), b1, b2, b3, b4]; exact h i (by omega)
end RC
theorem crcRel {n : Nat → Nat} {g g' : Nat → Nat → Int32} {i : Nat} (h : RelB n g g') (hi : i < 20) : crM (fun x => g' 1 (200 * i + x)) (n (10 + i)) ^^^ (-1) = crc (n (10 + i)) (g (100 + i)) := crM_crc (fun k hk => h i hi k hk)
theorem shaRel {n : Nat → Nat} {g g' : Nat → Nat → Int32} {i : Nat} (h : RelB n g g') (hi : i < 20) : sha (n (10 + i)) (fun x => g' 1 (200 * i + x) &&& nI 255) = sha (n (10 + i)) (g (100 + i)) := sha_rel (b := fun x => g' 1 (200 * i + x)) (fun k hk => h i hi k hk)
theorem bit2 : ∀ i, i < 32 → i ≠ 1 → bt (nI 2) i = false := by decide +kernel
theorem and2 (x : Int32) : x &&& nI 2 = 0 ∨ x &&& nI 2 = nI 2 := by
  by_cases h : bt x 1 = true
  · refine Or.inr (b_ext (fun i hi => ?_))
    rw [b_and]
    by_cases h1 : i = 1
    · rw [h1, h, Bool.true_and]
    · rw [bit2 i hi h1, Bool.and_false]
  · refine Or.inl (b_ext (fun i hi => ?_))
    rw [b_and, b_0]
    by_cases h1 : i = 1
    · rw [h1, Bool.eq_false_iff.mpr h, Bool.false_and]
    · rw [bit2 i hi h1, Bool.and_false]
/-- a file fits here when it fits there -/
theorem fitRel {n n' : Nat → Nat} {g g' : Nat → Nat → Int32} (h : Rel n g n' g') {i j : Nat} (hi : i < 20) (hj : j < n 2) : fitsX n g i j ↔ mFit g' i j (n (10 + i)) := by
  obtain ⟨hN, hZ, hC, hB, hL, hW, hS, hT, hR, h13⟩ := h
  obtain ⟨w1, w2⟩ := hW j hj
  unfold fitsX mFit hasM hasL hasS
  rw [crcRel hB hi, shaRel hB hi, ← w2]
  constructor
  · rintro ⟨a1, a2⟩
    refine ⟨fun b1 k hk => ?_, fun b2 k hk1 hk2 => ?_⟩
    · rw [w1 k (by omega), dgb_sby _ _ hk, dgb_sby _ _ hk]
      exact sby_ext (fun q hq => (a2 (by rw [b1]; decide) q hq).symm) k hk
    · rw [w1 k hk2, a1 (by rw [b2]; decide)]
      unfold dgb
      rw [if_neg (by omega), if_neg (by omega)]
  · rintro ⟨a1, a2⟩
    refine ⟨fun b2 => ?_, fun b1 => ?_⟩
    · refine by_inj (fun k hk => ?_)
      have := a2 ((and2 _).resolve_left b2) (32 + k) (by omega) (by omega)
      rw [w1 (32 + k) (by omega), dgb_C _ _ hk, dgb_C _ _ hk] at this
      exact this
    · refine sby_inj (fun k hk => ?_)
      have := a1 ((and1 _).resolve_left b1) k hk
      rw [w1 k (by omega), dgb_sby _ _ hk, dgb_sby _ _ hk] at this
      exact this.symm
theorem zN_rel {n : Nat → Nat} {g' : Nat → Nat → Int32} (h : RelZ n g') {i : Nat} (hi : i < 20) : zN g' i = n (10 + i) := by
  obtain ⟨a, b⟩ := h i hi
  unfold zN
  rw [b, nI_toInt (by omega)]
  rfl
theorem Rel.sz {n n' : Nat → Nat} {g g' : Nat → Nat → Int32} (h : Rel n g n' g') : ∀ i, i < 20 → zN g' i ≤ 200 ∧ g' 2 i = nI (zN g' i) := fun i hi => by
  rw [zN_rel h.2.1 hi]
  exact h.2.1 i hi
theorem m_thr {n n' : Nat → Nat} {g g' : Nat → Nat → Int32} (h : Rel n g n' g') (x : Nat) : Rel n g (va_up n' 7 x) g' := by
  obtain ⟨hN, hZ, hC, hB, hL, hW, hS, hT, hR, h13⟩ := h
  exact ⟨hN, (hZ.c (fun i hi => by first | rfl | simp (disch := omega) only [va_up_ne, va_up_self]) (by first | rfl | simp (disch := omega) only [va_up_ne, va_up_self])), (hC.c (by first | rfl | simp (disch := omega) only [va_up_ne, va_up_self]) (by first | rfl | simp (disch := omega) only [va_up_ne, va_up_self]) (by first | rfl | simp (disch := omega) only [va_up_ne, va_up_self])), (hB.c (fun i hi => by first | rfl | simp (disch := omega) only [va_up_ne, va_up_self]) (fun i hi => by first | rfl | simp (disch := omega) only [va_up_ne, va_up_self]) (by first | rfl | simp (disch := omega) only [va_up_ne, va_up_self])), (hL.c (by first | rfl | simp (disch := omega) only [va_up_ne, va_up_self]) (by first | rfl | simp (disch := omega) only [va_up_ne, va_up_self]) (by first | rfl | simp (disch := omega) only [va_up_ne, va_up_self])), (hW.c hN.2.2.2.2.2.2.2.2.2.1 (by first | rfl | simp (disch := omega) only [va_up_ne, va_up_self]) (fun i hi => by first | rfl | simp (disch := omega) only [va_up_ne, va_up_self]) (by first | rfl | simp (disch := omega) only [va_up_ne, va_up_self]) (by first | rfl | simp (disch := omega) only [va_up_ne, va_up_self]) (by first | rfl | simp (disch := omega) only [va_up_ne, va_up_self]) (by first | rfl | simp (disch := omega) only [va_up_ne, va_up_self])), (hS.c (by first | rfl | simp (disch := omega) only [va_up_ne, va_up_self]) (by first | rfl | simp (disch := omega) only [va_up_ne, va_up_self]) (by first | rfl | simp (disch := omega) only [va_up_ne, va_up_self]) (by first | rfl | simp (disch := omega) only [va_up_ne, va_up_self]) (by first | rfl | simp (disch := omega) only [va_up_ne, va_up_self]) (by first | rfl | simp (disch := omega) only [va_up_ne, va_up_self]) (by first | rfl | simp (disch := omega) only [va_up_ne, va_up_self]) (by first | rfl | simp (disch := omega) only [va_up_ne, va_up_self])), (hT.c (by first | rfl | simp (disch := omega) only [va_up_ne, va_up_self]) (by first | rfl | simp (disch := omega) only [va_up_ne, va_up_self]) (by first | rfl | simp (disch := omega) only [va_up_ne, va_up_self]) (by first | rfl | simp (disch := omega) only [va_up_ne, va_up_self]) (by first | rfl | simp (disch := omega) only [va_up_ne, va_up_self])), (hR.c hN.2.2.2.2.2.2.2.2.2.2.2.2 (by first | rfl | simp (disch := omega) only [va_up_ne, va_up_self]) (by first | rfl | simp (disch := omega) only [va_up_ne, va_up_self]) (by first | rfl | simp (disch := omega) only [va_up_ne, va_up_self]) (by first | rfl | simp (disch := omega) only [va_up_ne, va_up_self]) (fun i hi => by first | rfl | simp (disch := omega) only [va_up_ne, va_up_self]) (by first | rfl | simp (disch := omega) only [va_up_ne, va_up_self]) (by first | rfl | simp (disch := omega) only [va_up_ne, va_up_self]) (by first | rfl | simp (disch := omega) only [va_up_ne, va_up_self]) (by first | rfl | simp (disch := omega) only [va_up_ne, va_up_self])), (by first | exact h13 | (simp (disch := omega) only [va_up_ne, va_up_self]; exact h13))⟩
theorem m_octet {n n' : Nat → Nat} {g g' : Nat → Nat → Int32} (h : Rel n g n' g') (h4 : n 4 < 200) (x : Int32) : Rel (va_up n 4 (n 4 + 1)) (va_up g 0 (upd (g 0) (n 4) (x &&& nI 255))) (va_up n' 1 (n' 1 + 1)) (va_up g' 0 (upd (g' 0) (n' 1) x.toInt8.toInt32)) := by
  obtain ⟨hN, hZ, hC, hB, hL, hW, hS, hT, hR, h13⟩ := h
  have e4 : n 4 = n' 1 := hN.2.2.2.2.1
  have hC1 : RelC (va_up n 4 (n 4 + 1)) (va_up g 0 (upd (g 0) (n 4) (x &&& nI 255))) (va_up g' 0 (upd (g' 0) (n' 1) x.toInt8.toInt32)) := by
    intro k hk
    rw [va_up_self] at hk
    rw [va_up_self, va_up_self, ← e4]
    by_cases e : k = n 4
    · rw [e, pk_us, pk_us, i8_255]
    · rw [pk_un e, pk_un e]
      exact hC k (by omega)
  exact ⟨(by unfold RelN at *; simp [va_up] <;> omega), (hZ.c (fun i hi => by first | rfl | simp (disch := omega) only [va_up_ne, va_up_self]) (by first | rfl | simp (disch := omega) only [va_up_ne, va_up_self])), hC1, (hB.c (fun i hi => by first | rfl | simp (disch := omega) only [va_up_ne, va_up_self]) (fun i hi => by first | rfl | simp (disch := omega) only [va_up_ne, va_up_self]) (by first | rfl | simp (disch := omega) only [va_up_ne, va_up_self])), (hL.c (by first | rfl | simp (disch := omega) only [va_up_ne, va_up_self]) (by first | rfl | simp (disch := omega) only [va_up_ne, va_up_self]) (by first | rfl | simp (disch := omega) only [va_up_ne, va_up_self])), (hW.c hN.2.2.2.2.2.2.2.2.2.1 (by first | rfl | simp (disch := omega) only [va_up_ne, va_up_self]) (fun i hi => by first | rfl | simp (disch := omega) only [va_up_ne, va_up_self]) (by first | rfl | simp (disch := omega) only [va_up_ne, va_up_self]) (by first | rfl | simp (disch := omega) only [va_up_ne, va_up_self]) (by first | rfl | simp (disch := omega) only [va_up_ne, va_up_self]) (by first | rfl | simp (disch := omega) only [va_up_ne, va_up_self])), (hS.c (by first | rfl | simp (disch := omega) only [va_up_ne, va_up_self]) (by first | rfl | simp (disch := omega) only [va_up_ne, va_up_self]) (by first | rfl | simp (disch := omega) only [va_up_ne, va_up_self]) (by first | rfl | simp (disch := omega) only [va_up_ne, va_up_self]) (by first | rfl | simp (disch := omega) only [va_up_ne, va_up_self]) (by first | rfl | simp (disch := omega) only [va_up_ne, va_up_self]) (by first | rfl | simp (disch := omega) only [va_up_ne, va_up_self]) (by first | rfl | simp (disch := omega) only [va_up_ne, va_up_self])), (hT.c (by first | rfl | simp (disch := omega) only [va_up_ne, va_up_self]) (by first | rfl | simp (disch := omega) only [va_up_ne, va_up_self]) (by first | rfl | simp (disch := omega) only [va_up_ne, va_up_self]) (by first | rfl | simp (disch := omega) only [va_up_ne, va_up_self]) (by first | rfl | simp (disch := omega) only [va_up_ne, va_up_self])), (hR.c hN.2.2.2.2.2.2.2.2.2.2.2.2 (by first | rfl | simp (disch := omega) only [va_up_ne, va_up_self]) (by first | rfl | simp (disch := omega) only [va_up_ne, va_up_self]) (by first | rfl | simp (disch := omega) only [va_up_ne, va_up_self]) (by first | rfl | simp (disch := omega) only [va_up_ne, va_up_self]) (fun i hi => by first | rfl | simp (disch := omega) only [va_up_ne, va_up_self]) (by first | rfl | simp (disch := omega) only [va_up_ne, va_up_self]) (by first | rfl | simp (disch := omega) only [va_up_ne, va_up_self]) (by first | rfl | simp (disch := omega) only [va_up_ne, va_up_self]) (by first | rfl | simp (disch := omega) only [va_up_ne, va_up_self])), (by first | exact h13 | (simp (disch := omega) only [va_up_ne, va_up_self]; exact h13))⟩
theorem m_dig0 {n n' : Nat → Nat} {g g' : Nat → Nat → Int32} (h : Rel n g n' g')  : Rel (va_up n 1 32) (va_up g 1 (sha (n 4) (g 0))) (va_up n' 5 32) (va_up g' 16 (mkf (g' 16) (sha (n' 1) (fun x => g' 0 x &&& nI 255)) 32)) := by
  obtain ⟨hN, hZ, hC, hB, hL, hW, hS, hT, hR, h13⟩ := h
  have hL1 : RelL (va_up n 1 32) (va_up g 1 (sha (n 4) (g 0))) (va_up g' 16 (mkf (g' 16) (sha (n' 1) (fun x => g' 0 x &&& nI 255)) 32)) := by
    intro k hk
    rw [va_up_self] at hk
    rw [va_up_self, va_up_self, ← hN.2.2.2.2.1, sha_rel (b := g' 0) hC]
    exact if_pos hk
  exact ⟨(by unfold RelN at *; simp [va_up] <;> omega), (hZ.c (fun i hi => by first | rfl | simp (disch := omega) only [va_up_ne, va_up_self]) (by first | rfl | simp (disch := omega) only [va_up_ne, va_up_self])), (hC.c (by first | rfl | simp (disch := omega) only [va_up_ne, va_up_self]) (by first | rfl | simp (disch := omega) only [va_up_ne, va_up_self]) (by first | rfl | simp (disch := omega) only [va_up_ne, va_up_self])), (hB.c (fun i hi => by first | rfl | simp (disch := omega) only [va_up_ne, va_up_self]) (fun i hi => by first | rfl | simp (disch := omega) only [va_up_ne, va_up_self]) (by first | rfl | simp (disch := omega) only [va_up_ne, va_up_self])), hL1, (hW.c hN.2.2.2.2.2.2.2.2.2.1 (by first | rfl | simp (disch := omega) only [va_up_ne, va_up_self]) (fun i hi => by first | rfl | simp (disch := omega) only [va_up_ne, va_up_self]) (by first | rfl | simp (disch := omega) only [va_up_ne, va_up_self]) (by first | rfl | simp (disch := omega) only [va_up_ne, va_up_self]) (by first | rfl | simp (disch := omega) only [va_up_ne, va_up_self]) (by first | rfl | simp (disch := omega) only [va_up_ne, va_up_self])), (hS.c (by first | rfl | simp (disch := omega) only [va_up_ne, va_up_self]) (by first | rfl | simp (disch := omega) only [va_up_ne, va_up_self]) (by first | rfl | simp (disch := omega) only [va_up_ne, va_up_self]) (by first | rfl | simp (disch := omega) only [va_up_ne, va_up_self]) (by first | rfl | simp (disch := omega) only [va_up_ne, va_up_self]) (by first | rfl | simp (disch := omega) only [va_up_ne, va_up_self]) (by first | rfl | simp (disch := omega) only [va_up_ne, va_up_self]) (by first | rfl | simp (disch := omega) only [va_up_ne, va_up_self])), (hT.c (by first | rfl | simp (disch := omega) only [va_up_ne, va_up_self]) (by first | rfl | simp (disch := omega) only [va_up_ne, va_up_self]) (by first | rfl | simp (disch := omega) only [va_up_ne, va_up_self]) (by first | rfl | simp (disch := omega) only [va_up_ne, va_up_self]) (by first | rfl | simp (disch := omega) only [va_up_ne, va_up_self])), (hR.c hN.2.2.2.2.2.2.2.2.2.2.2.2 (by first | rfl | simp (disch := omega) only [va_up_ne, va_up_self]) (by first | rfl | simp (disch := omega) only [va_up_ne, va_up_self]) (by first | rfl | simp (disch := omega) only [va_up_ne, va_up_self]) (by first | rfl | simp (disch := omega) only [va_up_ne, va_up_self]) (fun i hi => by first | rfl | simp (disch := omega) only [va_up_ne, va_up_self]) (by first | rfl | simp (disch := omega) only [va_up_ne, va_up_self]) (by first | rfl | simp (disch := omega) only [va_up_ne, va_up_self]) (by first | rfl | simp (disch := omega) only [va_up_ne, va_up_self]) (by first | rfl | simp (disch := omega) only [va_up_ne, va_up_self])), (by first | exact h13 | (simp (disch := omega) only [va_up_ne, va_up_self]; exact h13))⟩
theorem m_dig1 {n n' : Nat → Nat} {g g' : Nat → Nat → Int32} (h : Rel n g n' g')  : Rel (va_up n 1 4) (va_up g 1 (upd (g 1) 0 (crc (n 4) (g 0)))) (va_up n' 5 4) (va_up g' 16 (shS (g' 16) (crM (g' 0) (n' 1) ^^^ (-1)))) := by
  obtain ⟨hN, hZ, hC, hB, hL, hW, hS, hT, hR, h13⟩ := h
  have hL1 : RelL (va_up n 1 4) (va_up g 1 (upd (g 1) 0 (crc (n 4) (g 0)))) (va_up g' 16 (shS (g' 16) (crM (g' 0) (n' 1) ^^^ (-1)))) := by
    intro k hk
    rw [va_up_self] at hk
    rw [va_up_self, va_up_self, ← hN.2.2.2.2.1, crM_crc (b := g' 0) hC]
    unfold shS sby
    rw [if_pos hk, show k / 4 = 0 by omega, show k % 4 = k by omega, pk_us]
  exact ⟨(by unfold RelN at *; simp [va_up] <;> omega), (hZ.c (fun i hi => by first | rfl | simp (disch := omega) only [va_up_ne, va_up_self]) (by first | rfl | simp (disch := omega) only [va_up_ne, va_up_self])), (hC.c (by first | rfl | simp (disch := omega) only [va_up_ne, va_up_self]) (by first | rfl | simp (disch := omega) only [va_up_ne, va_up_self]) (by first | rfl | simp (disch := omega) only [va_up_ne, va_up_self])), (hB.c (fun i hi => by first | rfl | simp (disch := omega) only [va_up_ne, va_up_self]) (fun i hi => by first | rfl | simp (disch := omega) only [va_up_ne, va_up_self]) (by first | rfl | simp (disch := omega) only [va_up_ne, va_up_self])), hL1, (hW.c hN.2.2.2.2.2.2.2.2.2.1 (by first | rfl | simp (disch := omega) only [va_up_ne, va_up_self]) (fun i hi => by first | rfl | simp (disch := omega) only [va_up_ne, va_up_self]) (by first | rfl | simp (disch := omega) only [va_up_ne, va_up_self]) (by first | rfl | simp (disch := omega) only [va_up_ne, va_up_self]) (by first | rfl | simp (disch := omega) only [va_up_ne, va_up_self]) (by first | rfl | simp (disch := omega) only [va_up_ne, va_up_self])), (hS.c (by first | rfl | simp (disch := omega) only [va_up_ne, va_up_self]) (by first | rfl | simp (disch := omega) only [va_up_ne, va_up_self]) (by first | rfl | simp (disch := omega) only [va_up_ne, va_up_self]) (by first | rfl | simp (disch := omega) only [va_up_ne, va_up_self]) (by first | rfl | simp (disch := omega) only [va_up_ne, va_up_self]) (by first | rfl | simp (disch := omega) only [va_up_ne, va_up_self]) (by first | rfl | simp (disch := omega) only [va_up_ne, va_up_self]) (by first | rfl | simp (disch := omega) only [va_up_ne, va_up_self])), (hT.c (by first | rfl | simp (disch := omega) only [va_up_ne, va_up_self]) (by first | rfl | simp (disch := omega) only [va_up_ne, va_up_self]) (by first | rfl | simp (disch := omega) only [va_up_ne, va_up_self]) (by first | rfl | simp (disch := omega) only [va_up_ne, va_up_self]) (by first | rfl | simp (disch := omega) only [va_up_ne, va_up_self])), (hR.c hN.2.2.2.2.2.2.2.2.2.2.2.2 (by first | rfl | simp (disch := omega) only [va_up_ne, va_up_self]) (by first | rfl | simp (disch := omega) only [va_up_ne, va_up_self]) (by first | rfl | simp (disch := omega) only [va_up_ne, va_up_self]) (by first | rfl | simp (disch := omega) only [va_up_ne, va_up_self]) (fun i hi => by first | rfl | simp (disch := omega) only [va_up_ne, va_up_self]) (by first | rfl | simp (disch := omega) only [va_up_ne, va_up_self]) (by first | rfl | simp (disch := omega) only [va_up_ne, va_up_self]) (by first | rfl | simp (disch := omega) only [va_up_ne, va_up_self]) (by first | rfl | simp (disch := omega) only [va_up_ne, va_up_self])), (by first | exact h13 | (simp (disch := omega) only [va_up_ne, va_up_self]; exact h13))⟩
theorem m_alter {n n' : Nat → Nat} {g g' : Nat → Nat → Int32} (h : Rel n g n' g') {i j : Nat} (hi : i < 20) (hj : j < n (10 + i)) (w : Int32) : Rel n (va_up g (100 + i) (upd (g (100 + i)) j (w &&& nI 255))) n' (va_up g' 1 (upd (g' 1) (200 * i + j) w.toInt8.toInt32)) := by
  obtain ⟨hN, hZ, hC, hB, hL, hW, hS, hT, hR, h13⟩ := h
  have hB1 : RelB n (va_up g (100 + i) (upd (g (100 + i)) j (w &&& nI 255))) (va_up g' 1 (upd (g' 1) (200 * i + j) w.toInt8.toInt32)) := by
    intro q hq k hk
    have z1 := (hZ q hq).1
    have z2 := (hZ i hi).1
    rw [va_up_self]
    by_cases e : q = i
    · rw [e] at hk ⊢
      rw [va_up_self]
      by_cases e1 : k = j
      · rw [e1, pk_us, pk_us, i8_255]
      · rw [pk_un e1, pk_un (by omega)]
        exact hB i hi k hk
    · rw [va_up_ne _ _ (by omega), pk_un (by omega)]
      exact hB q hq k hk
  exact ⟨hN, (hZ.c (fun i hi => by first | rfl | simp (disch := omega) only [va_up_ne, va_up_self]) (by first | rfl | simp (disch := omega) only [va_up_ne, va_up_self])), (hC.c (by first | rfl | simp (disch := omega) only [va_up_ne, va_up_self]) (by first | rfl | simp (disch := omega) only [va_up_ne, va_up_self]) (by first | rfl | simp (disch := omega) only [va_up_ne, va_up_self])), hB1, (hL.c (by first | rfl | simp (disch := omega) only [va_up_ne, va_up_self]) (by first | rfl | simp (disch := omega) only [va_up_ne, va_up_self]) (by first | rfl | simp (disch := omega) only [va_up_ne, va_up_self])), (hW.c hN.2.2.2.2.2.2.2.2.2.1 (by first | rfl | simp (disch := omega) only [va_up_ne, va_up_self]) (fun i hi => by first | rfl | simp (disch := omega) only [va_up_ne, va_up_self]) (by first | rfl | simp (disch := omega) only [va_up_ne, va_up_self]) (by first | rfl | simp (disch := omega) only [va_up_ne, va_up_self]) (by first | rfl | simp (disch := omega) only [va_up_ne, va_up_self]) (by first | rfl | simp (disch := omega) only [va_up_ne, va_up_self])), (hS.c (by first | rfl | simp (disch := omega) only [va_up_ne, va_up_self]) (by first | rfl | simp (disch := omega) only [va_up_ne, va_up_self]) (by first | rfl | simp (disch := omega) only [va_up_ne, va_up_self]) (by first | rfl | simp (disch := omega) only [va_up_ne, va_up_self]) (by first | rfl | simp (disch := omega) only [va_up_ne, va_up_self]) (by first | rfl | simp (disch := omega) only [va_up_ne, va_up_self]) (by first | rfl | simp (disch := omega) only [va_up_ne, va_up_self]) (by first | rfl | simp (disch := omega) only [va_up_ne, va_up_self])), (hT.c (by first | rfl | simp (disch := omega) only [va_up_ne, va_up_self]) (by first | rfl | simp (disch := omega) only [va_up_ne, va_up_self]) (by first | rfl | simp (disch := omega) only [va_up_ne, va_up_self]) (by first | rfl | simp (disch := omega) only [va_up_ne, va_up_self]) (by first | rfl | simp (disch := omega) only [va_up_ne, va_up_self])), (hR.c hN.2.2.2.2.2.2.2.2.2.2.2.2 (by first | rfl | simp (disch := omega) only [va_up_ne, va_up_self]) (by first | rfl | simp (disch := omega) only [va_up_ne, va_up_self]) (by first | rfl | simp (disch := omega) only [va_up_ne, va_up_self]) (by first | rfl | simp (disch := omega) only [va_up_ne, va_up_self]) (fun i hi => by first | rfl | simp (disch := omega) only [va_up_ne, va_up_self]) (by first | rfl | simp (disch := omega) only [va_up_ne, va_up_self]) (by first | rfl | simp (disch := omega) only [va_up_ne, va_up_self]) (by first | rfl | simp (disch := omega) only [va_up_ne, va_up_self]) (by first | rfl | simp (disch := omega) only [va_up_ne, va_up_self])), (by first | exact h13 | (simp (disch := omega) only [va_up_ne, va_up_self]; exact h13))⟩
theorem m_cut {n n' : Nat → Nat} {g g' : Nat → Nat → Int32} (h : Rel n g n' g') {i j : Nat} (hi : i < 20) (hj : j ≤ n (10 + i)) : Rel (va_up n (10 + i) j) g n' (va_up g' 2 (upd (g' 2) i (nI j))) := by
  obtain ⟨hN, hZ, hC, hB, hL, hW, hS, hT, hR, h13⟩ := h
  have hZ1 : RelZ (va_up n (10 + i) j) (va_up g' 2 (upd (g' 2) i (nI j))) := by
    intro q hq
    have z1 := hZ q hq
    rw [va_up_self]
    by_cases e : q = i
    · rw [e] at z1 ⊢
      rw [va_up_self, pk_us]
      exact ⟨by omega, rfl⟩
    · rw [va_up_ne _ _ (by omega), pk_un e]
      exact z1
  have hB1 : RelB (va_up n (10 + i) j) g (va_up g' 2 (upd (g' 2) i (nI j))) := by
    intro q hq k hk
    refine hB q hq k ?_
    by_cases e : q = i
    · rw [e, va_up_self] at hk
      rw [e]
      omega
    · rw [va_up_ne _ _ (by omega)] at hk
      exact hk
  exact ⟨(by unfold RelN at *; simp (disch := omega) only [va_up_ne]; omega), hZ1, (hC.c (by first | rfl | simp (disch := omega) only [va_up_ne, va_up_self]) (by first | rfl | simp (disch := omega) only [va_up_ne, va_up_self]) (by first | rfl | simp (disch := omega) only [va_up_ne, va_up_self])), hB1, (hL.c (by first | rfl | simp (disch := omega) only [va_up_ne, va_up_self]) (by first | rfl | simp (disch := omega) only [va_up_ne, va_up_self]) (by first | rfl | simp (disch := omega) only [va_up_ne, va_up_self])), (hW.c hN.2.2.2.2.2.2.2.2.2.1 (by first | rfl | simp (disch := omega) only [va_up_ne, va_up_self]) (fun i hi => by first | rfl | simp (disch := omega) only [va_up_ne, va_up_self]) (by first | rfl | simp (disch := omega) only [va_up_ne, va_up_self]) (by first | rfl | simp (disch := omega) only [va_up_ne, va_up_self]) (by first | rfl | simp (disch := omega) only [va_up_ne, va_up_self]) (by first | rfl | simp (disch := omega) only [va_up_ne, va_up_self])), (hS.c (by first | rfl | simp (disch := omega) only [va_up_ne, va_up_self]) (by first | rfl | simp (disch := omega) only [va_up_ne, va_up_self]) (by first | rfl | simp (disch := omega) only [va_up_ne, va_up_self]) (by first | rfl | simp (disch := omega) only [va_up_ne, va_up_self]) (by first | rfl | simp (disch := omega) only [va_up_ne, va_up_self]) (by first | rfl | simp (disch := omega) only [va_up_ne, va_up_self]) (by first | rfl | simp (disch := omega) only [va_up_ne, va_up_self]) (by first | rfl | simp (disch := omega) only [va_up_ne, va_up_self])), (hT.c (by first | rfl | simp (disch := omega) only [va_up_ne, va_up_self]) (by first | rfl | simp (disch := omega) only [va_up_ne, va_up_self]) (by first | rfl | simp (disch := omega) only [va_up_ne, va_up_self]) (by first | rfl | simp (disch := omega) only [va_up_ne, va_up_self]) (by first | rfl | simp (disch := omega) only [va_up_ne, va_up_self])), (hR.c hN.2.2.2.2.2.2.2.2.2.2.2.2 (by first | rfl | simp (disch := omega) only [va_up_ne, va_up_self]) (by first | rfl | simp (disch := omega) only [va_up_ne, va_up_self]) (by first | rfl | simp (disch := omega) only [va_up_ne, va_up_self]) (by first | rfl | simp (disch := omega) only [va_up_ne, va_up_self]) (fun i hi => by first | rfl | simp (disch := omega) only [va_up_ne, va_up_self]) (by first | rfl | simp (disch := omega) only [va_up_ne, va_up_self]) (by first | rfl | simp (disch := omega) only [va_up_ne, va_up_self]) (by first | rfl | simp (disch := omega) only [va_up_ne, va_up_self]) (by first | rfl | simp (disch := omega) only [va_up_ne, va_up_self])), (by first | exact h13 | (simp (disch := omega) only [va_up_ne, va_up_self]; exact h13))⟩
theorem m_sched {n n' : Nat → Nat} {g g' : Nat → Nat → Int32} (h : Rel n g n' g') {i a b : Nat} (hi : i < 20) (ha1 : 1 ≤ a) (ha : a ≤ 1000) (hb : b ≤ 1000000) : Rel n (va_up (va_up g 10 (upd (g 10) i (nI b))) 11 (upd (g 11) i (nI a))) n' (va_up (va_up g' 7 (upd (g' 7) i (nI b))) 8 (upd (g' 8) i (nI a))) := by
  obtain ⟨hN, hZ, hC, hB, hL, hW, hS, hT, hR, h13⟩ := h
  have hS1 : RelS (va_up (va_up g 10 (upd (g 10) i (nI b))) 11 (upd (g 11) i (nI a))) (va_up (va_up g' 7 (upd (g' 7) i (nI b))) 8 (upd (g' 8) i (nI a))) := by
    intro q hq
    obtain ⟨a1, a2, a3, a4, a5⟩ := hS q hq
    show g 9 q = g' 5 q ∧ upd (g 10) i (nI b) q = upd (g' 7) i (nI b) q ∧ upd (g 11) i (nI a) q = upd (g' 8) i (nI a) q ∧ g 12 q = g' 6 q ∧ schd (upd (g 11) i (nI a) q) (upd (g 10) i (nI b) q)
    by_cases e : q = i
    · rw [e] at a1 a4 ⊢
      rw [pk_us, pk_us, pk_us, pk_us]
      exact ⟨a1, rfl, rfl, a4, Or.inr ⟨a, b, ha1, ha, by omega, rfl, rfl⟩⟩
    · rw [pk_un e, pk_un e, pk_un e, pk_un e]
      exact ⟨a1, a2, a3, a4, a5⟩
  exact ⟨hN, (hZ.c (fun i hi => by first | rfl | simp (disch := omega) only [va_up_ne, va_up_self]) (by first | rfl | simp (disch := omega) only [va_up_ne, va_up_self])), (hC.c (by first | rfl | simp (disch := omega) only [va_up_ne, va_up_self]) (by first | rfl | simp (disch := omega) only [va_up_ne, va_up_self]) (by first | rfl | simp (disch := omega) only [va_up_ne, va_up_self])), (hB.c (fun i hi => by first | rfl | simp (disch := omega) only [va_up_ne, va_up_self]) (fun i hi => by first | rfl | simp (disch := omega) only [va_up_ne, va_up_self]) (by first | rfl | simp (disch := omega) only [va_up_ne, va_up_self])), (hL.c (by first | rfl | simp (disch := omega) only [va_up_ne, va_up_self]) (by first | rfl | simp (disch := omega) only [va_up_ne, va_up_self]) (by first | rfl | simp (disch := omega) only [va_up_ne, va_up_self])), (hW.c hN.2.2.2.2.2.2.2.2.2.1 (by first | rfl | simp (disch := omega) only [va_up_ne, va_up_self]) (fun i hi => by first | rfl | simp (disch := omega) only [va_up_ne, va_up_self]) (by first | rfl | simp (disch := omega) only [va_up_ne, va_up_self]) (by first | rfl | simp (disch := omega) only [va_up_ne, va_up_self]) (by first | rfl | simp (disch := omega) only [va_up_ne, va_up_self]) (by first | rfl | simp (disch := omega) only [va_up_ne, va_up_self])), hS1, (hT.c (by first | rfl | simp (disch := omega) only [va_up_ne, va_up_self]) (by first | rfl | simp (disch := omega) only [va_up_ne, va_up_self]) (by first | rfl | simp (disch := omega) only [va_up_ne, va_up_self]) (by first | rfl | simp (disch := omega) only [va_up_ne, va_up_self]) (by first | rfl | simp (disch := omega) only [va_up_ne, va_up_self])), (hR.c hN.2.2.2.2.2.2.2.2.2.2.2.2 (by first | rfl | simp (disch := omega) only [va_up_ne, va_up_self]) (by first | rfl | simp (disch := omega) only [va_up_ne, va_up_self]) (by first | rfl | simp (disch := omega) only [va_up_ne, va_up_self]) (by first | rfl | simp (disch := omega) only [va_up_ne, va_up_self]) (fun i hi => by first | rfl | simp (disch := omega) only [va_up_ne, va_up_self]) (by first | rfl | simp (disch := omega) only [va_up_ne, va_up_self]) (by first | rfl | simp (disch := omega) only [va_up_ne, va_up_self]) (by first | rfl | simp (disch := omega) only [va_up_ne, va_up_self]) (by first | rfl | simp (disch := omega) only [va_up_ne, va_up_self])), (by first | exact h13 | (simp (disch := omega) only [va_up_ne, va_up_self]; exact h13))⟩
theorem m_mark {n n' : Nat → Nat} {g g' : Nat → Nat → Int32} (h : Rel n g n' g') {i : Nat} (y : Int32) : Rel n (va_up g 9 (upd (g 9) i y)) n' (va_up g' 5 (upd (g' 5) i y)) := by
  obtain ⟨hN, hZ, hC, hB, hL, hW, hS, hT, hR, h13⟩ := h
  have hS1 : RelS (va_up g 9 (upd (g 9) i y)) (va_up g' 5 (upd (g' 5) i y)) := by
    intro q hq
    obtain ⟨a1, a2, a3, a4, a5⟩ := hS q hq
    show upd (g 9) i y q = upd (g' 5) i y q ∧ g 10 q = g' 7 q ∧ g 11 q = g' 8 q ∧ g 12 q = g' 6 q ∧ schd (g 11 q) (g 10 q)
    by_cases e : q = i
    · rw [e] at a2 a3 a4 a5 ⊢
      rw [pk_us, pk_us]
      exact ⟨rfl, a2, a3, a4, a5⟩
    · rw [pk_un e, pk_un e]
      exact ⟨a1, a2, a3, a4, a5⟩
  exact ⟨hN, (hZ.c (fun i hi => by first | rfl | simp (disch := omega) only [va_up_ne, va_up_self]) (by first | rfl | simp (disch := omega) only [va_up_ne, va_up_self])), (hC.c (by first | rfl | simp (disch := omega) only [va_up_ne, va_up_self]) (by first | rfl | simp (disch := omega) only [va_up_ne, va_up_self]) (by first | rfl | simp (disch := omega) only [va_up_ne, va_up_self])), (hB.c (fun i hi => by first | rfl | simp (disch := omega) only [va_up_ne, va_up_self]) (fun i hi => by first | rfl | simp (disch := omega) only [va_up_ne, va_up_self]) (by first | rfl | simp (disch := omega) only [va_up_ne, va_up_self])), (hL.c (by first | rfl | simp (disch := omega) only [va_up_ne, va_up_self]) (by first | rfl | simp (disch := omega) only [va_up_ne, va_up_self]) (by first | rfl | simp (disch := omega) only [va_up_ne, va_up_self])), (hW.c hN.2.2.2.2.2.2.2.2.2.1 (by first | rfl | simp (disch := omega) only [va_up_ne, va_up_self]) (fun i hi => by first | rfl | simp (disch := omega) only [va_up_ne, va_up_self]) (by first | rfl | simp (disch := omega) only [va_up_ne, va_up_self]) (by first | rfl | simp (disch := omega) only [va_up_ne, va_up_self]) (by first | rfl | simp (disch := omega) only [va_up_ne, va_up_self]) (by first | rfl | simp (disch := omega) only [va_up_ne, va_up_self])), hS1, (hT.c (by first | rfl | simp (disch := omega) only [va_up_ne, va_up_self]) (by first | rfl | simp (disch := omega) only [va_up_ne, va_up_self]) (by first | rfl | simp (disch := omega) only [va_up_ne, va_up_self]) (by first | rfl | simp (disch := omega) only [va_up_ne, va_up_self]) (by first | rfl | simp (disch := omega) only [va_up_ne, va_up_self])), (hR.c hN.2.2.2.2.2.2.2.2.2.2.2.2 (by first | rfl | simp (disch := omega) only [va_up_ne, va_up_self]) (by first | rfl | simp (disch := omega) only [va_up_ne, va_up_self]) (by first | rfl | simp (disch := omega) only [va_up_ne, va_up_self]) (by first | rfl | simp (disch := omega) only [va_up_ne, va_up_self]) (fun i hi => by first | rfl | simp (disch := omega) only [va_up_ne, va_up_self]) (by first | rfl | simp (disch := omega) only [va_up_ne, va_up_self]) (by first | rfl | simp (disch := omega) only [va_up_ne, va_up_self]) (by first | rfl | simp (disch := omega) only [va_up_ne, va_up_self]) (by first | rfl | simp (disch := omega) only [va_up_ne, va_up_self])), (by first | exact h13 | (simp (disch := omega) only [va_up_ne, va_up_self]; exact h13))⟩
section RG
variable (n : Nat → Nat) (g : Nat → Nat → Int32) (kd fl y : Int32)
theorem rowG_4 : rowG n g kd fl y 4 = upd (g 4) (n 5) kd := by
  unfold rowG
  simp (disch := omega) only [va_up_ne, va_up_self]
theorem rowG_5 : rowG n g kd fl y 5 = upd (g 5) (n 5) fl := by
  unfold rowG
  simp (disch := omega) only [va_up_ne, va_up_self]
theorem rowG_6 : rowG n g kd fl y 6 = upd (g 6) (n 5) y := by
  unfold rowG
  simp (disch := omega) only [va_up_ne, va_up_self]
theorem mrowG_11 : mrowG n g kd fl y 11 = upd (g 11) (n 4) kd := by
  unfold mrowG
  simp (disch := omega) only [va_up_ne, va_up_self]
theorem mrowG_12 : mrowG n g kd fl y 12 = upd (g 12) (n 4) fl := by
  unfold mrowG
  simp (disch := omega) only [va_up_ne, va_up_self]
theorem mrowG_14 : mrowG n g kd fl y 14 = upd (g 14) (n 4) y := by
  unfold mrowG
  simp (disch := omega) only [va_up_ne, va_up_self]
theorem mrowG_15 : mrowG n g kd fl y 15 = rowB (g 15) (rowS (g 15) (n 4) kd fl y) (n 4) := by
  unfold mrowG
  simp (disch := omega) only [va_up_ne, va_up_self]
theorem rowG_ne {a : Nat} (h4 : a ≠ 4) (h5 : a ≠ 5) (h6 : a ≠ 6) (hM : a ≠ 1000 + n 5) : rowG n g kd fl y a = g a := by
  unfold rowG
  rw [va_up_ne _ _ hM, va_up_ne _ _ h6, va_up_ne _ _ h5, va_up_ne _ _ h4]
theorem mrowG_ne {a : Nat} (h : a < 11 ∨ a = 13 ∨ 15 < a) : mrowG n g kd fl y a = g a := by
  unfold mrowG
  rw [va_up_ne _ _ (by omega), va_up_ne _ _ (by omega), va_up_ne _ _ (by omega), va_up_ne _ _ (by omega)]
end RG
set_option maxHeartbeats 200000 in
theorem rowS_rel {n : Nat → Nat} {g g' : Nat → Nat → Int32} (hR : RelR n g g') (kd fl y : Int32) : rowS (g' 15) (n 5) kd fl y = rowD (prevD (fun i8 => g (1000 + i8)) (n 5)) kd fl y := rowS_D (rdg := g' 15) (M := fun i8 => g (1000 + i8)) (i := n 5) (fun h0 k hk => (hR (n 5 - 1) (by omega)).2.2.2 k hk) kd fl y
set_option maxHeartbeats 200000 in
theorem row_rel {n n' : Nat → Nat} {g g' : Nat → Nat → Int32} (e5 : n 5 = n' 4) (hR : RelR n g g') (kd fl y : Int32) : RelR (va_up n 5 (n 5 + 1)) (rowG n g kd fl y) (mrowG n' g' kd fl y) := by
  have hD := rowS_rel hR kd fl y
  intro i hi
  rw [va_up_self] at hi
  rw [rowG_4, rowG_5, rowG_6, mrowG_11, mrowG_12, mrowG_14, mrowG_15, ← e5, hD]
  by_cases e : i = n 5
  · rw [e, pk_us, pk_us, pk_us, pk_us, pk_us, pk_us]
    refine ⟨rfl, rfl, rfl, fun k hk => ?_⟩
    have eM : rowG n g kd fl y (1000 + n 5) = rowD (prevD (fun i8 => g (1000 + i8)) (n 5)) kd fl y := va_up_self _ _ _
    rw [eM]
    generalize rowD (prevD (fun i8 => g (1000 + i8)) (n 5)) kd fl y = DD
    unfold rowB
    rw [if_pos (by omega), show 32 * n 5 + k - 32 * n 5 = k by omega]
    rfl
  · obtain ⟨a1, a2, a3, a4⟩ := hR i (by omega)
    rw [pk_un e, pk_un e, pk_un e, pk_un e, pk_un e, pk_un e]
    refine ⟨a1, a2, a3, fun k hk => ?_⟩
    rw [rowG_ne _ _ _ _ _ (by omega) (by omega) (by omega) (by omega)]
    unfold rowB
    rw [if_neg (by omega)]
    exact a4 k hk
set_option maxHeartbeats 200000 in
theorem m_row {n n' : Nat → Nat} {g g' : Nat → Nat → Int32} (h : Rel n g n' g') (h5 : n 5 < 200) (kd fl y : Int32) : Rel (va_up n 5 (n 5 + 1)) (rowG n g kd fl y) (va_up n' 4 (n' 4 + 1)) (mrowG n' g' kd fl y) := by
  obtain ⟨hN, hZ, hC, hB, hL, hW, hS, hT, hR, h13⟩ := h
  have hR1 := row_rel hN.2.2.2.2.2.1 hR kd fl y
  exact ⟨(by unfold RelN at *; simp [va_up] <;> omega), (hZ.c (fun i hi => by first | rfl | simp (disch := omega) only [va_up_ne, va_up_self]) (mrowG_ne _ _ _ _ _ (by omega))), (hC.c rfl (rowG_ne _ _ _ _ _ (by omega) (by omega) (by omega) (by omega)) (mrowG_ne _ _ _ _ _ (by omega))), (hB.c (fun i hi => by first | rfl | simp (disch := omega) only [va_up_ne, va_up_self]) (fun i hi => rowG_ne _ _ _ _ _ (by omega) (by omega) (by omega) (by omega)) (mrowG_ne _ _ _ _ _ (by omega))), (hL.c rfl (rowG_ne _ _ _ _ _ (by omega) (by omega) (by omega) (by omega)) (mrowG_ne _ _ _ _ _ (by omega))), (hW.c hN.2.2.2.2.2.2.2.2.2.1 rfl (fun i hi => rowG_ne _ _ _ _ _ (by omega) (by omega) (by omega) (by omega)) (rowG_ne _ _ _ _ _ (by omega) (by omega) (by omega) (by omega)) (rowG_ne _ _ _ _ _ (by omega) (by omega) (by omega) (by omega)) (mrowG_ne _ _ _ _ _ (by omega)) (mrowG_ne _ _ _ _ _ (by omega))), (hS.c (rowG_ne _ _ _ _ _ (by omega) (by omega) (by omega) (by omega)) (rowG_ne _ _ _ _ _ (by omega) (by omega) (by omega) (by omega)) (rowG_ne _ _ _ _ _ (by omega) (by omega) (by omega) (by omega)) (rowG_ne _ _ _ _ _ (by omega) (by omega) (by omega) (by omega)) (mrowG_ne _ _ _ _ _ (by omega)) (mrowG_ne _ _ _ _ _ (by omega)) (mrowG_ne _ _ _ _ _ (by omega)) (mrowG_ne _ _ _ _ _ (by omega))), (hT.c rfl (rowG_ne _ _ _ _ _ (by omega) (by omega) (by omega) (by omega)) (rowG_ne _ _ _ _ _ (by omega) (by omega) (by omega) (by omega)) (mrowG_ne _ _ _ _ _ (by omega)) (mrowG_ne _ _ _ _ _ (by omega))), hR1, (by rw [rowG_ne _ _ _ _ _ (by omega) (by omega) (by omega) (by omega), mrowG_ne _ _ _ _ _ (by omega)]; exact h13)⟩
