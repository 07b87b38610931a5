section
-- ===== PART A: goes FIRST, ahead of the names: the tables' words, and 'selects' of the private methods out of them =====
/-- a private method of a class that the tables say can be made, by its rows of tables_1 -/
def lw_okq (q : MethodName × Nat) : Prop := (q.1.cls ≠ "java/lang/invoke/MethodHandle" ∧ q.1.cls ≠ "java/lang/invoke/VarHandle") ∧ Cond.instantiable q.1.cls q.2 ∈ tables_1 ∧ Cond.privateMethod q.1 ∈ tables_1 ∧ Cond.instanceMethod q.1 ∈ tables_1
theorem lw_p0 : lw_okq (⟨"FixityRows$LongDigest", "widen", "()V"⟩, 2) := ⟨⟨by decide +kernel, by decide +kernel⟩, List.mem_of_getElem? (i := 29) (by decide +kernel), List.mem_of_getElem? (i := 212) (by decide +kernel), List.mem_of_getElem? (i := 213) (by decide +kernel)⟩
theorem lw_p1 : lw_okq (⟨"FixityRows$LongDigest", "mix", "()V"⟩, 2) := ⟨⟨by decide +kernel, by decide +kernel⟩, List.mem_of_getElem? (i := 29) (by decide +kernel), List.mem_of_getElem? (i := 222) (by decide +kernel), List.mem_of_getElem? (i := 223) (by decide +kernel)⟩
theorem lw_p2 : lw_okq (⟨"FixityRows$RowChain", "computeDigestOf", "(I)V"⟩, 7) := ⟨⟨by decide +kernel, by decide +kernel⟩, List.mem_of_getElem? (i := 108) (by decide +kernel), List.mem_of_getElem? (i := 264) (by decide +kernel), List.mem_of_getElem? (i := 265) (by decide +kernel)⟩
theorem lw_p3 : lw_okq (⟨"FixityRows", "isFile", "(I)Z"⟩, 13) := ⟨⟨by decide +kernel, by decide +kernel⟩, List.mem_of_getElem? (i := 15) (by decide +kernel), List.mem_of_getElem? (i := 296) (by decide +kernel), List.mem_of_getElem? (i := 297) (by decide +kernel)⟩
theorem lw_p4 : lw_okq (⟨"FixityRows", "check", "(II)Z"⟩, 13) := ⟨⟨by decide +kernel, by decide +kernel⟩, List.mem_of_getElem? (i := 15) (by decide +kernel), List.mem_of_getElem? (i := 319) (by decide +kernel), List.mem_of_getElem? (i := 320) (by decide +kernel)⟩
theorem lw_p5 : lw_okq (⟨"FixityRows", "matches", "(LFixityRows$Octets;LFixityRows$KeptFile;)Z"⟩, 13) := ⟨⟨by decide +kernel, by decide +kernel⟩, List.mem_of_getElem? (i := 15) (by decide +kernel), List.mem_of_getElem? (i := 323) (by decide +kernel), List.mem_of_getElem? (i := 324) (by decide +kernel)⟩
theorem lw_p6 : lw_okq (⟨"FixityRows", "longestWaiting", "(I)I"⟩, 13) := ⟨⟨by decide +kernel, by decide +kernel⟩, List.mem_of_getElem? (i := 15) (by decide +kernel), List.mem_of_getElem? (i := 343) (by decide +kernel), List.mem_of_getElem? (i := 344) (by decide +kernel)⟩
theorem lw_p7 : lw_okq (⟨"FixityRows", "countWaiting", "(I)I"⟩, 13) := ⟨⟨by decide +kernel, by decide +kernel⟩, List.mem_of_getElem? (i := 15) (by decide +kernel), List.mem_of_getElem? (i := 356) (by decide +kernel), List.mem_of_getElem? (i := 357) (by decide +kernel)⟩
theorem lw_p8 : lw_okq (⟨"FixityRows", "firstCopyFor", "(LFixityRows$KeptFile;)I"⟩, 13) := ⟨⟨by decide +kernel, by decide +kernel⟩, List.mem_of_getElem? (i := 15) (by decide +kernel), List.mem_of_getElem? (i := 368) (by decide +kernel), List.mem_of_getElem? (i := 369) (by decide +kernel)⟩
theorem lw_p9 : lw_okq (⟨"java/lang/Throwable", "fillInStackTrace", "(I)Ljava/lang/Throwable;"⟩, 6) := ⟨⟨by decide +kernel, by decide +kernel⟩, List.mem_of_getElem? (i := 458) (by decide +kernel), List.mem_of_getElem? (i := 456) (by decide +kernel), List.mem_of_getElem? (i := 457) (by decide +kernel)⟩
theorem lw_p10 : lw_okq (⟨"FixityRowsModel", "gather", "()V"⟩, 32) := ⟨⟨by decide +kernel, by decide +kernel⟩, List.mem_of_getElem? (i := 491) (by decide +kernel), List.mem_of_getElem? (i := 681) (by decide +kernel), List.mem_of_getElem? (i := 682) (by decide +kernel)⟩
theorem lw_p11 : lw_okq (⟨"FixityRowsModel", "long1", "()V"⟩, 32) := ⟨⟨by decide +kernel, by decide +kernel⟩, List.mem_of_getElem? (i := 491) (by decide +kernel), List.mem_of_getElem? (i := 685) (by decide +kernel), List.mem_of_getElem? (i := 686) (by decide +kernel)⟩
theorem lw_p12 : lw_okq (⟨"FixityRowsModel", "block", "(I)V"⟩, 32) := ⟨⟨by decide +kernel, by decide +kernel⟩, List.mem_of_getElem? (i := 491) (by decide +kernel), List.mem_of_getElem? (i := 689) (by decide +kernel), List.mem_of_getElem? (i := 690) (by decide +kernel)⟩
theorem lw_p13 : lw_okq (⟨"FixityRowsModel", "short1", "()V"⟩, 32) := ⟨⟨by decide +kernel, by decide +kernel⟩, List.mem_of_getElem? (i := 491) (by decide +kernel), List.mem_of_getElem? (i := 699) (by decide +kernel), List.mem_of_getElem? (i := 700) (by decide +kernel)⟩
theorem lw_p14 : lw_okq (⟨"FixityRowsModel", "enter", "(III)V"⟩, 32) := ⟨⟨by decide +kernel, by decide +kernel⟩, List.mem_of_getElem? (i := 491) (by decide +kernel), List.mem_of_getElem? (i := 716) (by decide +kernel), List.mem_of_getElem? (i := 717) (by decide +kernel)⟩
theorem lw_p15 : lw_okq (⟨"FixityRowsModel", "chained", "(I)V"⟩, 32) := ⟨⟨by decide +kernel, by decide +kernel⟩, List.mem_of_getElem? (i := 491) (by decide +kernel), List.mem_of_getElem? (i := 720) (by decide +kernel), List.mem_of_getElem? (i := 721) (by decide +kernel)⟩
def lw_privs_1 : List (MethodName × Nat) := [(⟨"FixityRows$LongDigest", "widen", "()V"⟩, 2), (⟨"FixityRows$LongDigest", "mix", "()V"⟩, 2), (⟨"FixityRows$RowChain", "computeDigestOf", "(I)V"⟩, 7), (⟨"FixityRows", "isFile", "(I)Z"⟩, 13), (⟨"FixityRows", "check", "(II)Z"⟩, 13), (⟨"FixityRows", "matches", "(LFixityRows$Octets;LFixityRows$KeptFile;)Z"⟩, 13), (⟨"FixityRows", "longestWaiting", "(I)I"⟩, 13), (⟨"FixityRows", "countWaiting", "(I)I"⟩, 13), (⟨"FixityRows", "firstCopyFor", "(LFixityRows$KeptFile;)I"⟩, 13), (⟨"java/lang/Throwable", "fillInStackTrace", "(I)Ljava/lang/Throwable;"⟩, 6), (⟨"FixityRowsModel", "gather", "()V"⟩, 32), (⟨"FixityRowsModel", "long1", "()V"⟩, 32), (⟨"FixityRowsModel", "block", "(I)V"⟩, 32), (⟨"FixityRowsModel", "short1", "()V"⟩, 32), (⟨"FixityRowsModel", "enter", "(III)V"⟩, 32), (⟨"FixityRowsModel", "chained", "(I)V"⟩, 32)]
theorem lw_r1 : ∀ q ∈ lw_privs_1, lw_okq q := List.forall_mem_cons.mpr ⟨lw_p0, List.forall_mem_cons.mpr ⟨lw_p1, List.forall_mem_cons.mpr ⟨lw_p2, List.forall_mem_cons.mpr ⟨lw_p3, List.forall_mem_cons.mpr ⟨lw_p4, List.forall_mem_cons.mpr ⟨lw_p5, List.forall_mem_cons.mpr ⟨lw_p6, List.forall_mem_cons.mpr ⟨lw_p7, List.forall_mem_cons.mpr ⟨lw_p8, List.forall_mem_cons.mpr ⟨lw_p9, List.forall_mem_cons.mpr ⟨lw_p10, List.forall_mem_cons.mpr ⟨lw_p11, List.forall_mem_cons.mpr ⟨lw_p12, List.forall_mem_cons.mpr ⟨lw_p13, List.forall_mem_cons.mpr ⟨lw_p14, List.forall_mem_cons.mpr ⟨lw_p15, fun _ h => absurd h List.not_mem_nil⟩⟩⟩⟩⟩⟩⟩⟩⟩⟩⟩⟩⟩⟩⟩⟩
theorem lw_p16 : lw_okq (⟨"FixityRowsModel", "number", "(I)V"⟩, 32) := ⟨⟨by decide +kernel, by decide +kernel⟩, List.mem_of_getElem? (i := 491) (by decide +kernel), List.mem_of_getElem? (i := 724) (by decide +kernel), List.mem_of_getElem? (i := 725) (by decide +kernel)⟩
theorem lw_p17 : lw_okq (⟨"FixityRowsModel", "isFile", "(I)Z"⟩, 32) := ⟨⟨by decide +kernel, by decide +kernel⟩, List.mem_of_getElem? (i := 491) (by decide +kernel), List.mem_of_getElem? (i := 732) (by decide +kernel), List.mem_of_getElem? (i := 733) (by decide +kernel)⟩
theorem lw_p18 : lw_okq (⟨"FixityRowsModel", "check", "(II)Z"⟩, 32) := ⟨⟨by decide +kernel, by decide +kernel⟩, List.mem_of_getElem? (i := 491) (by decide +kernel), List.mem_of_getElem? (i := 744) (by decide +kernel), List.mem_of_getElem? (i := 745) (by decide +kernel)⟩
theorem lw_p19 : lw_okq (⟨"FixityRowsModel", "fits", "(I)Z"⟩, 32) := ⟨⟨by decide +kernel, by decide +kernel⟩, List.mem_of_getElem? (i := 491) (by decide +kernel), List.mem_of_getElem? (i := 748) (by decide +kernel), List.mem_of_getElem? (i := 749) (by decide +kernel)⟩
theorem lw_p20 : lw_okq (⟨"FixityRowsModel", "fill", "(I)V"⟩, 32) := ⟨⟨by decide +kernel, by decide +kernel⟩, List.mem_of_getElem? (i := 491) (by decide +kernel), List.mem_of_getElem? (i := 752) (by decide +kernel), List.mem_of_getElem? (i := 753) (by decide +kernel)⟩
theorem lw_p21 : lw_okq (⟨"FixityRowsModel", "has", "(I)Z"⟩, 32) := ⟨⟨by decide +kernel, by decide +kernel⟩, List.mem_of_getElem? (i := 491) (by decide +kernel), List.mem_of_getElem? (i := 756) (by decide +kernel), List.mem_of_getElem? (i := 757) (by decide +kernel)⟩
theorem lw_p22 : lw_okq (⟨"FixityRowsModel", "first", "(I)I"⟩, 32) := ⟨⟨by decide +kernel, by decide +kernel⟩, List.mem_of_getElem? (i := 491) (by decide +kernel), List.mem_of_getElem? (i := 768) (by decide +kernel), List.mem_of_getElem? (i := 769) (by decide +kernel)⟩
theorem lw_p23 : lw_okq (⟨"FixityRowsModel", "isDue", "(II)Z"⟩, 32) := ⟨⟨by decide +kernel, by decide +kernel⟩, List.mem_of_getElem? (i := 491) (by decide +kernel), List.mem_of_getElem? (i := 772) (by decide +kernel), List.mem_of_getElem? (i := 773) (by decide +kernel)⟩
def lw_privs_2 : List (MethodName × Nat) := [(⟨"FixityRowsModel", "number", "(I)V"⟩, 32), (⟨"FixityRowsModel", "isFile", "(I)Z"⟩, 32), (⟨"FixityRowsModel", "check", "(II)Z"⟩, 32), (⟨"FixityRowsModel", "fits", "(I)Z"⟩, 32), (⟨"FixityRowsModel", "fill", "(I)V"⟩, 32), (⟨"FixityRowsModel", "has", "(I)Z"⟩, 32), (⟨"FixityRowsModel", "first", "(I)I"⟩, 32), (⟨"FixityRowsModel", "isDue", "(II)Z"⟩, 32)]
theorem lw_r2 : ∀ q ∈ lw_privs_2, lw_okq q := List.forall_mem_cons.mpr ⟨lw_p16, List.forall_mem_cons.mpr ⟨lw_p17, List.forall_mem_cons.mpr ⟨lw_p18, List.forall_mem_cons.mpr ⟨lw_p19, List.forall_mem_cons.mpr ⟨lw_p20, List.forall_mem_cons.mpr ⟨lw_p21, List.forall_mem_cons.mpr ⟨lw_p22, List.forall_mem_cons.mpr ⟨lw_p23, fun _ h => absurd h List.not_mem_nil⟩⟩⟩⟩⟩⟩⟩⟩
def lw_privs : List (MethodName × Nat) := lw_privs_1 ++ (lw_privs_2)
def lw_tbl : List Cond := k2_sels lw_privs ++ tables_1
theorem lw_privs_ok : ∀ q ∈ lw_privs, lw_okq q := by
  show ∀ q ∈ lw_privs_1 ++ (lw_privs_2), lw_okq q
  exact List.forall_mem_append.mpr ⟨lw_r1, lw_r2⟩
end
section
/-! ===== BEGIN words of one list among another's, by their places ===== -/
theorem goodIn_r {big : List Cond} (ws : List Cond) (ps : List Nat) (hp : ws = ps.filterMap (fun i => big[i]?)) (h : ws.all goodWord = true) : GoodIn big ws := by
  intro w hw
  have h1 := List.all_eq_true.mp h w hw
  rw [hp] at hw
  obtain ⟨i, -, hi⟩ := List.mem_filterMap.mp hw
  have hm : w ∈ big := by first | exact List.mem_of_getElem? hi | exact List.getElem?_mem hi
  exact ⟨hm, good_of_word h1⟩
theorem goodIn_app {big a b : List Cond} (ha : GoodIn big a) (hb : GoodIn big b) : GoodIn big (a ++ b) := fun w h => (List.mem_append.mp h).elim (ha w) (hb w)
theorem goodIn_ca {big a b : List Cond} {c : Cond} (ha : GoodIn big (c :: a)) (hb : GoodIn big b) : GoodIn big (c :: (a ++ b)) := fun w h => (List.mem_cons.mp h).elim (fun e => ha w (List.mem_cons.mpr (Or.inl e))) (fun h => (List.mem_append.mp h).elim (fun h => ha w (List.mem_cons.mpr (Or.inr h))) (hb w))
theorem goodIn_sub {big ws : List Cond} (hm : ∀ w ∈ ws, w ∈ big) (h : ws.all goodWord = true) : GoodIn big ws := fun w hw => ⟨hm w hw, good_of_word (List.all_eq_true.mp h w hw)⟩
/-! ===== END ===== -/


/-! ===== BEGIN printed: names, fields, word lists, decode rows ===== -/
def RX0 : String := "FixityRows$KeptFile"
def TX0 : u_T := fun k => match k with
  | 0 => ("FixityRows$KeptFile", "octets", "LFixityRows$Octets;", true)
  | 1 => ("FixityRows$KeptFile", "longWords", "[I", true)
  | 2 => ("FixityRows$KeptFile", "shortWord", "I", false)
  | 3 => ("FixityRows$KeptFile", "algorithms", "I", false)
  | 4 => ("FixityRows$KeptFile", "fittedDay", "I", false)
  | 5 => ("FixityRows$KeptFile", "nextDay", "I", false)
  | 6 => ("FixityRows$KeptFile", "span", "I", false)
  | _ => ("FixityRows$KeptFile", "mendings", "I", false)
def tyX0 : Nat → FieldType := fun k => match k with
  | 0 => .object "FixityRows$Octets"
  | 1 => .array .int
  | 2 => .int
  | 3 => .int
  | 4 => .int
  | 5 => .int
  | 6 => .int
  | _ => .int
abbrev wsX00 : List Cond := u_ws RX0 TX0 8
theorem nmX0 : ∀ a, a < 8 → ∀ b, b < 8 → a ≠ b → (TX0 a).2.1 ≠ (TX0 b).2.1 := by decide +kernel
theorem tyX0_ok : ∀ k, k < 8 → parseFieldDescriptor (TX0 k).2.2.1 = some (tyX0 k) := by decide +kernel
abbrev cX0_init : ByteArray := prog_2_method_1_code
def yX0_init : MethodName := ⟨RX0, "<init>", "()V"⟩
abbrev cX0_plan : ByteArray := prog_2_method_2_code
def yX0_plan : MethodName := ⟨RX0, "plan", "(II)V"⟩
abbrev cX0_isWaiting : ByteArray := prog_2_method_3_code
def yX0_isWaiting : MethodName := ⟨RX0, "isWaiting", "(I)Z"⟩
abbrev cX0_planBehind : ByteArray := prog_2_method_4_code
def yX0_planBehind : MethodName := ⟨RX0, "planBehind", "(I)V"⟩
def RX1 : String := "FixityRows$LongDigest"
def TX1 : u_T := fun k => match k with
  | 0 => ("FixityRows$LongDigest", "eight", "[I", true)
  | _ => ("FixityRows$LongDigest", "w", "[I", true)
def tyX1 : Nat → FieldType := fun k => match k with
  | 0 => .array .int
  | _ => .array .int
abbrev wsX10 : List Cond := u_ws RX1 TX1 2
theorem nmX1 : ∀ a, a < 2 → ∀ b, b < 2 → a ≠ b → (TX1 a).2.1 ≠ (TX1 b).2.1 := by decide +kernel
theorem tyX1_ok : ∀ k, k < 2 → parseFieldDescriptor (TX1 k).2.2.1 = some (tyX1 k) := by decide +kernel
abbrev cX1_init : ByteArray := prog_3_method_1_code
def yX1_init : MethodName := ⟨RX1, "<init>", "()V"⟩
abbrev cX1_compute : ByteArray := prog_3_method_2_code
def yX1_compute : MethodName := ⟨RX1, "compute", "(LFixityRows$Octets;)V"⟩
abbrev cX1_copyTo : ByteArray := prog_3_method_3_code
def yX1_copyTo : MethodName := ⟨RX1, "copyTo", "([I)V"⟩
abbrev cX1_equalTo : ByteArray := prog_3_method_4_code
def yX1_equalTo : MethodName := ⟨RX1, "equalTo", "([I)Z"⟩
abbrev cX1_paddedWord : ByteArray := prog_3_method_5_code
def yX1_paddedWord : MethodName := ⟨RX1, "paddedWord", "(LFixityRows$Octets;I)I"⟩
abbrev cX1_widen : ByteArray := prog_3_method_6_code
def yX1_widen : MethodName := ⟨RX1, "widen", "()V"⟩
abbrev cX1_mix : ByteArray := prog_3_method_7_code
def yX1_mix : MethodName := ⟨RX1, "mix", "()V"⟩
abbrev cX1_smallSigma0 : ByteArray := prog_3_method_8_code
def yX1_smallSigma0 : MethodName := ⟨RX1, "smallSigma0", "(I)I"⟩
abbrev cX1_smallSigma1 : ByteArray := prog_3_method_9_code
def yX1_smallSigma1 : MethodName := ⟨RX1, "smallSigma1", "(I)I"⟩
abbrev cX1_bigSigma0 : ByteArray := prog_3_method_10_code
def yX1_bigSigma0 : MethodName := ⟨RX1, "bigSigma0", "(I)I"⟩
abbrev cX1_bigSigma1 : ByteArray := prog_3_method_11_code
def yX1_bigSigma1 : MethodName := ⟨RX1, "bigSigma1", "(I)I"⟩
def RX2 : String := "FixityRows$Octets"
def TX2 : u_T := fun k => match k with
  | 0 => ("FixityRows$Octets", "values", "[I", true)
  | _ => ("FixityRows$Octets", "size", "I", false)
def tyX2 : Nat → FieldType := fun k => match k with
  | 0 => .array .int
  | _ => .int
abbrev wsX20 : List Cond := u_ws RX2 TX2 2
theorem nmX2 : ∀ a, a < 2 → ∀ b, b < 2 → a ≠ b → (TX2 a).2.1 ≠ (TX2 b).2.1 := by decide +kernel
theorem tyX2_ok : ∀ k, k < 2 → parseFieldDescriptor (TX2 k).2.2.1 = some (tyX2 k) := by decide +kernel
abbrev cX2_init : ByteArray := prog_4_method_1_code
def yX2_init : MethodName := ⟨RX2, "<init>", "()V"⟩
abbrev cX2_count : ByteArray := prog_4_method_2_code
def yX2_count : MethodName := ⟨RX2, "count", "()I"⟩
abbrev cX2_has : ByteArray := prog_4_method_3_code
def yX2_has : MethodName := ⟨RX2, "has", "(I)Z"⟩
abbrev cX2_value : ByteArray := prog_4_method_4_code
def yX2_value : MethodName := ⟨RX2, "value", "(I)I"⟩
abbrev cX2_push : ByteArray := prog_4_method_5_code
def yX2_push : MethodName := ⟨RX2, "push", "(I)V"⟩
abbrev cX2_pushWord : ByteArray := prog_4_method_6_code
def yX2_pushWord : MethodName := ⟨RX2, "pushWord", "(I)V"⟩
abbrev cX2_replace : ByteArray := prog_4_method_7_code
def yX2_replace : MethodName := ⟨RX2, "replace", "(II)V"⟩
abbrev cX2_shorten : ByteArray := prog_4_method_8_code
def yX2_shorten : MethodName := ⟨RX2, "shorten", "(I)V"⟩
abbrev cX2_copyFrom : ByteArray := prog_4_method_9_code
def yX2_copyFrom : MethodName := ⟨RX2, "copyFrom", "(LFixityRows$Octets;)V"⟩
def RX3 : String := "FixityRows$RowChain"
def TX3 : u_T := fun k => match k with
  | 0 => ("FixityRows$RowChain", "longDigest", "LFixityRows$LongDigest;", true)
  | 1 => ("FixityRows$RowChain", "sealed", "LFixityRows$Octets;", true)
  | 2 => ("FixityRows$RowChain", "kinds", "[I", true)
  | 3 => ("FixityRows$RowChain", "fileNumbers", "[I", true)
  | 4 => ("FixityRows$RowChain", "days", "[I", true)
  | 5 => ("FixityRows$RowChain", "digests", "[[I", true)
  | _ => ("FixityRows$RowChain", "count", "I", false)
def tyX3 : Nat → FieldType := fun k => match k with
  | 0 => .object "FixityRows$LongDigest"
  | 1 => .object "FixityRows$Octets"
  | 2 => .array .int
  | 3 => .array .int
  | 4 => .array .int
  | 5 => .array (.array .int)
  | _ => .int
abbrev wsX30 : List Cond := u_ws RX3 TX3 7
theorem nmX3 : ∀ a, a < 7 → ∀ b, b < 7 → a ≠ b → (TX3 a).2.1 ≠ (TX3 b).2.1 := by decide +kernel
theorem tyX3_ok : ∀ k, k < 7 → parseFieldDescriptor (TX3 k).2.2.1 = some (tyX3 k) := by decide +kernel
abbrev cX3_init : ByteArray := prog_5_method_1_code
def yX3_init : MethodName := ⟨RX3, "<init>", "()V"⟩
abbrev cX3_has : ByteArray := prog_5_method_2_code
def yX3_has : MethodName := ⟨RX3, "has", "(I)Z"⟩
abbrev cX3_kindOf : ByteArray := prog_5_method_3_code
def yX3_kindOf : MethodName := ⟨RX3, "kindOf", "(I)I"⟩
abbrev cX3_fileOf : ByteArray := prog_5_method_4_code
def yX3_fileOf : MethodName := ⟨RX3, "fileOf", "(I)I"⟩
abbrev cX3_dayOf : ByteArray := prog_5_method_5_code
def yX3_dayOf : MethodName := ⟨RX3, "dayOf", "(I)I"⟩
abbrev cX3_firstWordOf : ByteArray := prog_5_method_6_code
def yX3_firstWordOf : MethodName := ⟨RX3, "firstWordOf", "(I)I"⟩
abbrev cX3_append : ByteArray := prog_5_method_7_code
def yX3_append : MethodName := ⟨RX3, "append", "(III)V"⟩
abbrev cX3_changeDay : ByteArray := prog_5_method_8_code
def yX3_changeDay : MethodName := ⟨RX3, "changeDay", "(II)V"⟩
abbrev cX3_remove : ByteArray := prog_5_method_9_code
def yX3_remove : MethodName := ⟨RX3, "remove", "(I)V"⟩
abbrev cX3_firstBroken : ByteArray := prog_5_method_10_code
def yX3_firstBroken : MethodName := ⟨RX3, "firstBroken", "()I"⟩
abbrev cX3_computeDigestOf : ByteArray := prog_5_method_11_code
def yX3_computeDigestOf : MethodName := ⟨RX3, "computeDigestOf", "(I)V"⟩
def RX4 : String := "FixityRows$ShortDigest"
def TX4 : u_T := fun k => match k with
  | _ => ("FixityRows$ShortDigest", "table", "[I", true)
def tyX4 : Nat → FieldType := fun k => match k with
  | _ => .array .int
abbrev wsX40 : List Cond := u_ws RX4 TX4 1
theorem nmX4 : ∀ a, a < 1 → ∀ b, b < 1 → a ≠ b → (TX4 a).2.1 ≠ (TX4 b).2.1 := by decide +kernel
theorem tyX4_ok : ∀ k, k < 1 → parseFieldDescriptor (TX4 k).2.2.1 = some (tyX4 k) := by decide +kernel
abbrev cX4_init : ByteArray := prog_6_method_1_code
def yX4_init : MethodName := ⟨RX4, "<init>", "()V"⟩
abbrev cX4_compute : ByteArray := prog_6_method_2_code
def yX4_compute : MethodName := ⟨RX4, "compute", "(LFixityRows$Octets;)I"⟩
abbrev cX4_entry : ByteArray := prog_6_method_3_code
def yX4_entry : MethodName := ⟨RX4, "entry", "(I)I"⟩
def RX5 : String := "FixityRows"
def TX5 : u_T := fun k => match k with
  | 0 => ("FixityRows", "capacity", "I", true)
  | 1 => ("FixityRows", "longDigest", "LFixityRows$LongDigest;", true)
  | 2 => ("FixityRows", "shortDigest", "LFixityRows$ShortDigest;", true)
  | 3 => ("FixityRows", "collected", "LFixityRows$Octets;", true)
  | 4 => ("FixityRows", "latestDigest", "[I", true)
  | 5 => ("FixityRows", "latestLength", "I", false)
  | 6 => ("FixityRows", "files", "[LFixityRows$KeptFile;", true)
  | 7 => ("FixityRows", "fileCount", "I", false)
  | 8 => ("FixityRows", "rows", "LFixityRows$RowChain;", true)
  | 9 => ("FixityRows", "checkedFiles", "[I", true)
  | 10 => ("FixityRows", "checkedFits", "[Z", true)
  | 11 => ("FixityRows", "checkedCount", "I", false)
  | _ => ("FixityRows", "workedDay", "I", false)
def tyX5 : Nat → FieldType := fun k => match k with
  | 0 => .int
  | 1 => .object "FixityRows$LongDigest"
  | 2 => .object "FixityRows$ShortDigest"
  | 3 => .object "FixityRows$Octets"
  | 4 => .array .int
  | 5 => .int
  | 6 => .array (.object "FixityRows$KeptFile")
  | 7 => .int
  | 8 => .object "FixityRows$RowChain"
  | 9 => .array .int
  | 10 => .array .boolean
  | 11 => .int
  | _ => .int
abbrev wsX50 : List Cond := u_ws RX5 TX5 13
theorem nmX5 : ∀ a, a < 13 → ∀ b, b < 13 → a ≠ b → (TX5 a).2.1 ≠ (TX5 b).2.1 := by decide +kernel
theorem tyX5_ok : ∀ k, k < 13 → parseFieldDescriptor (TX5 k).2.2.1 = some (tyX5 k) := by decide +kernel
abbrev cX5_init : ByteArray := prog_1_method_1_code
def yX5_init : MethodName := ⟨RX5, "<init>", "(I)V"⟩
abbrev cX5_octet : ByteArray := prog_1_method_2_code
def yX5_octet : MethodName := ⟨RX5, "octet", "(I)V"⟩
abbrev cX5_digest : ByteArray := prog_1_method_3_code
def yX5_digest : MethodName := ⟨RX5, "digest", "(I)I"⟩
abbrev cX5_at : ByteArray := prog_1_method_4_code
def yX5_at : MethodName := ⟨RX5, "at", "(I)I"⟩
abbrev cX5_file : ByteArray := prog_1_method_5_code
def yX5_file : MethodName := ⟨RX5, "file", "(II)I"⟩
abbrev cX5_alter : ByteArray := prog_1_method_6_code
def yX5_alter : MethodName := ⟨RX5, "alter", "(III)I"⟩
abbrev cX5_cut : ByteArray := prog_1_method_7_code
def yX5_cut : MethodName := ⟨RX5, "cut", "(II)I"⟩
abbrev cX5_read : ByteArray := prog_1_method_8_code
def yX5_read : MethodName := ⟨RX5, "read", "(II)I"⟩
abbrev cX5_schedule : ByteArray := prog_1_method_9_code
def yX5_schedule : MethodName := ⟨RX5, "schedule", "(III)I"⟩
abbrev cX5_due : ByteArray := prog_1_method_10_code
def yX5_due : MethodName := ⟨RX5, "due", "(I)I"⟩
abbrev cX5_told : ByteArray := prog_1_method_11_code
def yX5_told : MethodName := ⟨RX5, "told", "(II)I"⟩
abbrev cX5_mend : ByteArray := prog_1_method_12_code
def yX5_mend : MethodName := ⟨RX5, "mend", "(II)I"⟩
abbrev cX5_about : ByteArray := prog_1_method_13_code
def yX5_about : MethodName := ⟨RX5, "about", "(II)I"⟩
abbrev cX5_row : ByteArray := prog_1_method_14_code
def yX5_row : MethodName := ⟨RX5, "row", "(II)I"⟩
abbrev cX5_spoil : ByteArray := prog_1_method_15_code
def yX5_spoil : MethodName := ⟨RX5, "spoil", "(II)I"⟩
abbrev cX5_chain : ByteArray := prog_1_method_16_code
def yX5_chain : MethodName := ⟨RX5, "chain", "()I"⟩
abbrev cX5_isDay : ByteArray := prog_1_method_17_code
def yX5_isDay : MethodName := ⟨RX5, "isDay", "(I)Z"⟩
abbrev cX5_isFile : ByteArray := prog_1_method_18_code
def yX5_isFile : MethodName := ⟨RX5, "isFile", "(I)Z"⟩
abbrev cX5_matches : ByteArray := prog_1_method_19_code
def yX5_matches : MethodName := ⟨RX5, "matches", "(LFixityRows$Octets;LFixityRows$KeptFile;)Z"⟩
abbrev cX5_check : ByteArray := prog_1_method_20_code
def yX5_check : MethodName := ⟨RX5, "check", "(II)Z"⟩
abbrev cX5_longestWaiting : ByteArray := prog_1_method_21_code
def yX5_longestWaiting : MethodName := ⟨RX5, "longestWaiting", "(I)I"⟩
abbrev cX5_countWaiting : ByteArray := prog_1_method_22_code
def yX5_countWaiting : MethodName := ⟨RX5, "countWaiting", "(I)I"⟩
abbrev cX5_firstCopyFor : ByteArray := prog_1_method_23_code
def yX5_firstCopyFor : MethodName := ⟨RX5, "firstCopyFor", "(LFixityRows$KeptFile;)I"⟩
def RX6 : String := "FixityRowsModel"
def TX6 : u_T := fun k => match k with
  | 0 => ("FixityRowsModel", "thrown", "I", false)
  | 1 => ("FixityRowsModel", "capacity", "I", true)
  | 2 => ("FixityRowsModel", "collected", "I", false)
  | 3 => ("FixityRowsModel", "said", "[B", true)
  | 4 => ("FixityRowsModel", "files", "I", false)
  | 5 => ("FixityRowsModel", "bytes", "[B", true)
  | 6 => ("FixityRowsModel", "size", "[I", true)
  | 7 => ("FixityRowsModel", "algorithms", "[I", true)
  | 8 => ("FixityRowsModel", "wanted", "[B", true)
  | 9 => ("FixityRowsModel", "fitted", "[I", true)
  | 10 => ("FixityRowsModel", "mended", "[I", true)
  | 11 => ("FixityRowsModel", "due", "[I", true)
  | 12 => ("FixityRowsModel", "span", "[I", true)
  | 13 => ("FixityRowsModel", "worked", "I", false)
  | 14 => ("FixityRowsModel", "told", "I", false)
  | 15 => ("FixityRowsModel", "toldFile", "[I", true)
  | 16 => ("FixityRowsModel", "toldFits", "[Z", true)
  | 17 => ("FixityRowsModel", "rows", "I", false)
  | 18 => ("FixityRowsModel", "rowWhat", "[I", true)
  | 19 => ("FixityRowsModel", "rowFile", "[I", true)
  | 20 => ("FixityRowsModel", "rowDay", "[I", true)
  | 21 => ("FixityRowsModel", "rowDigest", "[B", true)
  | 22 => ("FixityRowsModel", "shown", "I", false)
  | 23 => ("FixityRowsModel", "show", "[B", true)
  | 24 => ("FixityRowsModel", "filled", "I", false)
  | 25 => ("FixityRowsModel", "buffer", "[B", true)
  | 26 => ("FixityRowsModel", "made", "[B", true)
  | 27 => ("FixityRowsModel", "w", "[I", true)
  | 28 => ("FixityRowsModel", "h", "[I", true)
  | 29 => ("FixityRowsModel", "v", "[I", true)
  | 30 => ("FixityRowsModel", "begins", "[I", true)
  | _ => ("FixityRowsModel", "adds", "[I", true)
def tyX6 : Nat → FieldType := fun k => match k with
  | 0 => .int
  | 1 => .int
  | 2 => .int
  | 3 => .array .byte
  | 4 => .int
  | 5 => .array .byte
  | 6 => .array .int
  | 7 => .array .int
  | 8 => .array .byte
  | 9 => .array .int
  | 10 => .array .int
  | 11 => .array .int
  | 12 => .array .int
  | 13 => .int
  | 14 => .int
  | 15 => .array .int
  | 16 => .array .boolean
  | 17 => .int
  | 18 => .array .int
  | 19 => .array .int
  | 20 => .array .int
  | 21 => .array .byte
  | 22 => .int
  | 23 => .array .byte
  | 24 => .int
  | 25 => .array .byte
  | 26 => .array .byte
  | 27 => .array .int
  | 28 => .array .int
  | 29 => .array .int
  | 30 => .array .int
  | _ => .array .int
abbrev wsX60 : List Cond := u_ws RX6 TX6 32
theorem nmX6 : ∀ a, a < 32 → ∀ b, b < 32 → a ≠ b → (TX6 a).2.1 ≠ (TX6 b).2.1 := by decide +kernel
theorem tyX6_ok : ∀ k, k < 32 → parseFieldDescriptor (TX6 k).2.2.1 = some (tyX6 k) := by decide +kernel
abbrev cX6_init : ByteArray := prog_8_method_1_code
def yX6_init : MethodName := ⟨RX6, "<init>", "(I)V"⟩
abbrev cX6_thrown : ByteArray := prog_8_method_2_code
def yX6_thrown : MethodName := ⟨RX6, "thrown", "()I"⟩
abbrev cX6_in : ByteArray := prog_8_method_3_code
def yX6_in : MethodName := ⟨RX6, "in", "(III)Z"⟩
abbrev cX6_isFile : ByteArray := prog_8_method_4_code
def yX6_isFile : MethodName := ⟨RX6, "isFile", "(I)Z"⟩
abbrev cX6_isDay : ByteArray := prog_8_method_5_code
def yX6_isDay : MethodName := ⟨RX6, "isDay", "(I)Z"⟩
abbrev cX6_turned : ByteArray := prog_8_method_6_code
def yX6_turned : MethodName := ⟨RX6, "turned", "(II)I"⟩
abbrev cX6_mixed : ByteArray := prog_8_method_7_code
def yX6_mixed : MethodName := ⟨RX6, "mixed", "(IIII)I"⟩
abbrev cX6_block : ByteArray := prog_8_method_8_code
def yX6_block : MethodName := ⟨RX6, "block", "(I)V"⟩
abbrev cX6_long1 : ByteArray := prog_8_method_9_code
def yX6_long1 : MethodName := ⟨RX6, "long1", "()V"⟩
abbrev cX6_short1 : ByteArray := prog_8_method_10_code
def yX6_short1 : MethodName := ⟨RX6, "short1", "()V"⟩
abbrev cX6_fill : ByteArray := prog_8_method_11_code
def yX6_fill : MethodName := ⟨RX6, "fill", "(I)V"⟩
abbrev cX6_has : ByteArray := prog_8_method_12_code
def yX6_has : MethodName := ⟨RX6, "has", "(I)Z"⟩
abbrev cX6_fits : ByteArray := prog_8_method_13_code
def yX6_fits : MethodName := ⟨RX6, "fits", "(I)Z"⟩
abbrev cX6_number : ByteArray := prog_8_method_14_code
def yX6_number : MethodName := ⟨RX6, "number", "(I)V"⟩
abbrev cX6_chained : ByteArray := prog_8_method_15_code
def yX6_chained : MethodName := ⟨RX6, "chained", "(I)V"⟩
abbrev cX6_enter : ByteArray := prog_8_method_16_code
def yX6_enter : MethodName := ⟨RX6, "enter", "(III)V"⟩
abbrev cX6_octet : ByteArray := prog_8_method_17_code
def yX6_octet : MethodName := ⟨RX6, "octet", "(I)V"⟩
abbrev cX6_gather : ByteArray := prog_8_method_18_code
def yX6_gather : MethodName := ⟨RX6, "gather", "()V"⟩
abbrev cX6_digest : ByteArray := prog_8_method_19_code
def yX6_digest : MethodName := ⟨RX6, "digest", "(I)I"⟩
abbrev cX6_at : ByteArray := prog_8_method_20_code
def yX6_at : MethodName := ⟨RX6, "at", "(I)I"⟩
abbrev cX6_file : ByteArray := prog_8_method_21_code
def yX6_file : MethodName := ⟨RX6, "file", "(II)I"⟩
abbrev cX6_alter : ByteArray := prog_8_method_22_code
def yX6_alter : MethodName := ⟨RX6, "alter", "(III)I"⟩
abbrev cX6_cut : ByteArray := prog_8_method_23_code
def yX6_cut : MethodName := ⟨RX6, "cut", "(II)I"⟩
abbrev cX6_check : ByteArray := prog_8_method_24_code
def yX6_check : MethodName := ⟨RX6, "check", "(II)Z"⟩
abbrev cX6_read : ByteArray := prog_8_method_25_code
def yX6_read : MethodName := ⟨RX6, "read", "(II)I"⟩
abbrev cX6_schedule : ByteArray := prog_8_method_26_code
def yX6_schedule : MethodName := ⟨RX6, "schedule", "(III)I"⟩
abbrev cX6_isDue : ByteArray := prog_8_method_27_code
def yX6_isDue : MethodName := ⟨RX6, "isDue", "(II)Z"⟩
abbrev cX6_first : ByteArray := prog_8_method_28_code
def yX6_first : MethodName := ⟨RX6, "first", "(I)I"⟩
abbrev cX6_due : ByteArray := prog_8_method_29_code
def yX6_due : MethodName := ⟨RX6, "due", "(I)I"⟩
abbrev cX6_told : ByteArray := prog_8_method_30_code
def yX6_told : MethodName := ⟨RX6, "told", "(II)I"⟩
abbrev cX6_mend : ByteArray := prog_8_method_31_code
def yX6_mend : MethodName := ⟨RX6, "mend", "(II)I"⟩
abbrev cX6_about : ByteArray := prog_8_method_32_code
def yX6_about : MethodName := ⟨RX6, "about", "(II)I"⟩
abbrev cX6_row : ByteArray := prog_8_method_33_code
def yX6_row : MethodName := ⟨RX6, "row", "(II)I"⟩
abbrev cX6_spoil : ByteArray := prog_8_method_34_code
def yX6_spoil : MethodName := ⟨RX6, "spoil", "(II)I"⟩
abbrev cX6_chain : ByteArray := prog_8_method_35_code
def yX6_chain : MethodName := ⟨RX6, "chain", "()I"⟩
def RJx00060 : String := "java/lang/ArrayIndexOutOfBoundsException"
def TJx00060 : u_T := fun k => match k with
  | 0 => ("java/lang/Throwable", "cause", "Ljava/lang/Throwable;", false)
  | 1 => ("java/lang/Throwable", "stackTrace", "[Ljava/lang/StackTraceElement;", false)
  | 2 => ("java/lang/Throwable", "suppressedExceptions", "Ljava/util/List;", false)
  | 3 => ("java/lang/Throwable", "detailMessage", "Ljava/lang/String;", false)
  | 4 => ("java/lang/Throwable", "backtrace", "Ljava/lang/Object;", false)
  | _ => ("java/lang/Throwable", "depth", "I", false)
def tyJx00060 : Nat → FieldType := fun k => match k with
  | 0 => .object "java/lang/Throwable"
  | 1 => .array (.object "java/lang/StackTraceElement")
  | 2 => .object "java/util/List"
  | 3 => .object "java/lang/String"
  | 4 => .object "java/lang/Object"
  | _ => .int
abbrev wsJx000600 : List Cond := u_ws RJx00060 TJx00060 6
theorem nmJx00060 : ∀ a, a < 6 → ∀ b, b < 6 → a ≠ b → (TJx00060 a).2.1 ≠ (TJx00060 b).2.1 := by decide +kernel
theorem tyJx00060_ok : ∀ k, k < 6 → parseFieldDescriptor (TJx00060 k).2.2.1 = some (tyJx00060 k) := by decide +kernel
abbrev cJx00060_init_a7421 : ByteArray := prog_9_method_2_code
def yJx00060_init_a7421 : MethodName := ⟨RJx00060, "<init>", "(Ljava/lang/String;)V"⟩
def RJ9 : String := "java/lang/Math"
def TJ9 : u_T := fun k => match k with
  | _ => ("", "", "", false)
def tyJ9 : Nat → FieldType := fun k => match k with
  | _ => .int
abbrev wsJ90 : List Cond := u_ws RJ9 TJ9 0
theorem nmJ9 : ∀ a, a < 0 → ∀ b, b < 0 → a ≠ b → (TJ9 a).2.1 ≠ (TJ9 b).2.1 := by decide +kernel
theorem tyJ9_ok : ∀ k, k < 0 → parseFieldDescriptor (TJ9 k).2.2.1 = some (tyJ9 k) := by decide +kernel
abbrev cJ9_max_7cf53 : ByteArray := prog_12_method_65_code
def yJ9_max_7cf53 : MethodName := ⟨RJ9, "max", "(II)I"⟩
abbrev cJ9_min_7cf53 : ByteArray := prog_12_method_69_code
def yJ9_min_7cf53 : MethodName := ⟨RJ9, "min", "(II)I"⟩
def RJ0 : String := "java/lang/String"
def TJ0 : u_T := fun k => match k with
  | _ => ("", "", "", false)
def tyJ0 : Nat → FieldType := fun k => match k with
  | _ => .int
abbrev wsJ00 : List Cond := u_ws RJ0 TJ0 0
theorem nmJ0 : ∀ a, a < 0 → ∀ b, b < 0 → a ≠ b → (TJ0 a).2.1 ≠ (TJ0 b).2.1 := by decide +kernel
theorem tyJ0_ok : ∀ k, k < 0 → parseFieldDescriptor (TJ0 k).2.2.1 = some (tyJ0 k) := by decide +kernel
def RL : String := "FixityRowsLaw"
abbrev cL_cell : ByteArray := method_2_code
def yL_cell : MethodName := ⟨RL, "cell", "([II)I"⟩
abbrev cL_at : ByteArray := method_3_code
def yL_at : MethodName := ⟨RL, "at", "(LFixityRows;I[J)I"⟩
abbrev cL_law : ByteArray := code
def yL_law : MethodName := ⟨RL, "law", "([I)Z"⟩
def wsX2_init : List Cond := .code yX2_init cX2_init 1 none :: ([.methodLink RX2 3 objectInit, .instanceMethod objectInit, .code objectInit ⟨#[0xb1]⟩ 1 none, .arrayClass .int, .fieldLink RX2 9 "FixityRows$Octets" "values" "[I"] ++ wsX20)
def wsX0_init : List Cond := .code yX0_init cX0_init 1 none :: ([.methodLink RX0 3 objectInit, .instanceMethod objectInit, .code objectInit ⟨#[0xb1]⟩ 1 none, .classLink RX0 9 RX2, .instantiable RX2 2, .initialized RX2, .fieldLink RX0 12 "FixityRows$KeptFile" "octets" "LFixityRows$Octets;", .arrayClass .int, .fieldLink RX0 18 "FixityRows$KeptFile" "longWords" "[I", .fieldLink RX0 22 "FixityRows$KeptFile" "fittedDay" "I", .fieldLink RX0 26 "FixityRows$KeptFile" "nextDay" "I", .instanceMethod yX2_init, .code yX2_init cX2_init 1 none, .methodLink RX2 3 objectInit, .fieldLink RX2 9 "FixityRows$Octets" "values" "[I"] ++ wsX20 ++ wsX00)
def wsX0_plan : List Cond := .code yX0_plan cX0_plan 3 none :: ([.fieldLink RX0 26 "FixityRows$KeptFile" "nextDay" "I", .fieldLink RX0 29 "FixityRows$KeptFile" "span" "I"] ++ wsX00)
def wsX0_isWaiting : List Cond := .code yX0_isWaiting cX0_isWaiting 2 (some .boolean) :: ([.fieldLink RX0 29 "FixityRows$KeptFile" "span" "I", .fieldLink RX0 26 "FixityRows$KeptFile" "nextDay" "I"] ++ wsX00)
def wsX0_planBehind : List Cond := .code yX0_planBehind cX0_planBehind 2 none :: ([.fieldLink RX0 26 "FixityRows$KeptFile" "nextDay" "I", .fieldLink RX0 29 "FixityRows$KeptFile" "span" "I", .methodLink RX0 32 yX0_isWaiting, .instanceMethod yX0_isWaiting, .selects RX0 yX0_isWaiting yX0_isWaiting, .initialized RX0, .code yX0_isWaiting cX0_isWaiting 2 (some .boolean)] ++ wsX00)
def wsX1_init : List Cond := .code yX1_init cX1_init 1 none :: ([.methodLink RX1 3 objectInit, .instanceMethod objectInit, .code objectInit ⟨#[0xb1]⟩ 1 none, .arrayClass .int, .fieldLink RX1 9 "FixityRows$LongDigest" "eight" "[I", .fieldLink RX1 15 "FixityRows$LongDigest" "w" "[I"] ++ wsX10)
def wsX2_count : List Cond := .code yX2_count cX2_count 1 (some .int) :: ([.fieldLink RX2 15 "FixityRows$Octets" "size" "I"] ++ wsX20)
def wsX2_value : List Cond := .code yX2_value cX2_value 2 (some .int) :: ([.fieldLink RX2 15 "FixityRows$Octets" "size" "I", .fieldLink RX2 9 "FixityRows$Octets" "values" "[I"] ++ wsX20)
def wsX1_paddedWord : List Cond := .code yX1_paddedWord cX1_paddedWord 6 (some .int) :: ([.methodLink RX1 21 yX2_count, .instanceMethod yX2_count, .selects RX2 yX2_count yX2_count, .initialized RX2, .code yX2_count cX2_count 1 (some .int), .fieldLink RX2 15 "FixityRows$Octets" "size" "I", .methodLink RX1 37 yX2_value, .instanceMethod yX2_value, .selects RX2 yX2_value yX2_value, .code yX2_value cX2_value 2 (some .int), .fieldLink RX2 9 "FixityRows$Octets" "values" "[I"] ++ wsX20)
def wsX1_smallSigma0 : List Cond := .code yX1_smallSigma0 cX1_smallSigma0 1 (some .int) :: ([])
def wsX1_smallSigma1 : List Cond := .code yX1_smallSigma1 cX1_smallSigma1 1 (some .int) :: ([])
def wsX1_widen : List Cond := .code yX1_widen cX1_widen 2 none :: ([.fieldLink RX1 15 "FixityRows$LongDigest" "w" "[I", .methodLink RX1 41 yX1_smallSigma0, .static yX1_smallSigma0, .initialized RX1, .code yX1_smallSigma0 cX1_smallSigma0 1 (some .int), .methodLink RX1 44 yX1_smallSigma1, .static yX1_smallSigma1, .code yX1_smallSigma1 cX1_smallSigma1 1 (some .int)] ++ wsX10)
def wsX1_bigSigma1 : List Cond := .code yX1_bigSigma1 cX1_bigSigma1 1 (some .int) :: ([])
def wsX1_bigSigma0 : List Cond := .code yX1_bigSigma0 cX1_bigSigma0 1 (some .int) :: ([])
def wsX1_mix : List Cond := .code yX1_mix cX1_mix 12 none :: ([.fieldLink RX1 9 "FixityRows$LongDigest" "eight" "[I", .fieldLink RX1 50 "FixityRows$LongDigest" "K" "[I", .fieldLink RX1 15 "FixityRows$LongDigest" "w" "[I", .methodLink RX1 47 yX1_bigSigma1, .static yX1_bigSigma1, .initialized RX1, .code yX1_bigSigma1 cX1_bigSigma1 1 (some .int), .methodLink RX1 53 yX1_bigSigma0, .static yX1_bigSigma0, .code yX1_bigSigma0 cX1_bigSigma0 1 (some .int)] ++ wsX10)
def wsX1_compute_r1 : List Cond := [Cond.fieldLink RX1 9 "FixityRows$LongDigest" "eight" "[I", Cond.fieldLink RX1 18 "FixityRows$LongDigest" "ROOTS" "[I", Cond.fieldLink RX1 15 "FixityRows$LongDigest" "w" "[I", Cond.methodLink RX1 21 yX2_count, Cond.instanceMethod yX2_count, Cond.selects RX2 yX2_count yX2_count, Cond.initialized RX2, Cond.code yX2_count cX2_count 1 (some .int), Cond.fieldLink RX2 15 "FixityRows$Octets" "size" "I", Cond.methodLink RX1 27 yX1_paddedWord, Cond.static yX1_paddedWord, Cond.initialized RX1, Cond.code yX1_paddedWord cX1_paddedWord 6 (some .int), Cond.methodLink RX1 37 yX2_value, Cond.instanceMethod yX2_value, Cond.selects RX2 yX2_value yX2_value, Cond.code yX2_value cX2_value 2 (some .int), Cond.fieldLink RX2 9 "FixityRows$Octets" "values" "[I", Cond.methodLink RX1 31 yX1_widen, Cond.instanceMethod yX1_widen, Cond.selects RX1 yX1_widen yX1_widen, Cond.code yX1_widen cX1_widen 2 none, Cond.methodLink RX1 41 yX1_smallSigma0, Cond.static yX1_smallSigma0]
def wsX1_compute_r2 : List Cond := [Cond.code yX1_smallSigma0 cX1_smallSigma0 1 (some .int), Cond.methodLink RX1 44 yX1_smallSigma1, Cond.static yX1_smallSigma1, Cond.code yX1_smallSigma1 cX1_smallSigma1 1 (some .int), Cond.methodLink RX1 34 yX1_mix, Cond.instanceMethod yX1_mix, Cond.selects RX1 yX1_mix yX1_mix, Cond.code yX1_mix cX1_mix 12 none, Cond.fieldLink RX1 50 "FixityRows$LongDigest" "K" "[I", Cond.methodLink RX1 47 yX1_bigSigma1, Cond.static yX1_bigSigma1, Cond.code yX1_bigSigma1 cX1_bigSigma1 1 (some .int), Cond.methodLink RX1 53 yX1_bigSigma0, Cond.static yX1_bigSigma0, Cond.code yX1_bigSigma0 cX1_bigSigma0 1 (some .int)]
def wsX1_compute : List Cond := .code yX1_compute cX1_compute 6 none :: ((wsX1_compute_r1 ++ wsX1_compute_r2) ++ wsX10 ++ wsX20)
def wsX1_copyTo : List Cond := .code yX1_copyTo cX1_copyTo 3 none :: ([.fieldLink RX1 9 "FixityRows$LongDigest" "eight" "[I"] ++ wsX10)
def wsX1_equalTo : List Cond := .code yX1_equalTo cX1_equalTo 3 (some .boolean) :: ([.fieldLink RX1 9 "FixityRows$LongDigest" "eight" "[I"] ++ wsX10)
def wsX2_has : List Cond := .code yX2_has cX2_has 2 (some .boolean) :: ([.fieldLink RX2 15 "FixityRows$Octets" "size" "I"] ++ wsX20)
def wsX2_push : List Cond := .code yX2_push cX2_push 2 none :: ([.fieldLink RX2 15 "FixityRows$Octets" "size" "I", .fieldLink RX2 9 "FixityRows$Octets" "values" "[I"] ++ wsX20)
def wsX2_pushWord : List Cond := .code yX2_pushWord cX2_pushWord 3 none :: ([.methodLink RX2 19 yX2_push, .instanceMethod yX2_push, .selects RX2 yX2_push yX2_push, .initialized RX2, .code yX2_push cX2_push 2 none, .fieldLink RX2 15 "FixityRows$Octets" "size" "I", .fieldLink RX2 9 "FixityRows$Octets" "values" "[I"] ++ wsX20)
def wsX2_replace : List Cond := .code yX2_replace cX2_replace 3 none :: ([.fieldLink RX2 9 "FixityRows$Octets" "values" "[I", .methodLink RX2 23 yX2_has, .instanceMethod yX2_has, .selects RX2 yX2_has yX2_has, .initialized RX2, .code yX2_has cX2_has 2 (some .boolean), .fieldLink RX2 15 "FixityRows$Octets" "size" "I"] ++ wsX20)
def wsX2_shorten : List Cond := .code yX2_shorten cX2_shorten 2 none :: ([.fieldLink RX2 15 "FixityRows$Octets" "size" "I"] ++ wsX20)
def wsX2_copyFrom : List Cond := .code yX2_copyFrom cX2_copyFrom 3 none :: ([.fieldLink RX2 15 "FixityRows$Octets" "size" "I", .fieldLink RX2 9 "FixityRows$Octets" "values" "[I"] ++ wsX20)
def wsX3_init_r1 : List Cond := [Cond.methodLink RX3 3 objectInit, Cond.instanceMethod objectInit, Cond.code objectInit ⟨#[0xb1]⟩ 1 none, Cond.classLink RX3 9 RX1, Cond.instantiable RX1 2, Cond.initialized RX1, Cond.fieldLink RX3 12 "FixityRows$RowChain" "longDigest" "LFixityRows$LongDigest;", Cond.classLink RX3 18 RX2, Cond.instantiable RX2 2, Cond.initialized RX2, Cond.fieldLink RX3 21 "FixityRows$RowChain" "sealed" "LFixityRows$Octets;", Cond.arrayClass .int, Cond.fieldLink RX3 25 "FixityRows$RowChain" "kinds" "[I", Cond.fieldLink RX3 29 "FixityRows$RowChain" "fileNumbers" "[I", Cond.fieldLink RX3 32 "FixityRows$RowChain" "days" "[I", Cond.classLink RX3 35 "[[I", Cond.fieldLink RX3 37 "FixityRows$RowChain" "digests" "[[I", Cond.instanceMethod yX1_init, Cond.code yX1_init cX1_init 1 none, Cond.methodLink RX1 3 objectInit, Cond.fieldLink RX1 9 "FixityRows$LongDigest" "eight" "[I", Cond.fieldLink RX1 15 "FixityRows$LongDigest" "w" "[I", Cond.instanceMethod yX2_init, Cond.code yX2_init cX2_init 1 none]
def wsX3_init_r2 : List Cond := [Cond.methodLink RX2 3 objectInit, Cond.fieldLink RX2 9 "FixityRows$Octets" "values" "[I"]
def wsX3_init : List Cond := .code yX3_init cX3_init 1 none :: ((wsX3_init_r1 ++ wsX3_init_r2) ++ wsX10 ++ wsX30 ++ wsX20)
def wsX3_has : List Cond := .code yX3_has cX3_has 2 (some .boolean) :: ([.fieldLink RX3 40 "FixityRows$RowChain" "count" "I"] ++ wsX30)
def wsX3_kindOf : List Cond := .code yX3_kindOf cX3_kindOf 2 (some .int) :: ([.fieldLink RX3 25 "FixityRows$RowChain" "kinds" "[I", .methodLink RX3 44 yX3_has, .instanceMethod yX3_has, .selects RX3 yX3_has yX3_has, .initialized RX3, .code yX3_has cX3_has 2 (some .boolean), .fieldLink RX3 40 "FixityRows$RowChain" "count" "I"] ++ wsX30)
def wsX3_fileOf : List Cond := .code yX3_fileOf cX3_fileOf 2 (some .int) :: ([.fieldLink RX3 29 "FixityRows$RowChain" "fileNumbers" "[I", .methodLink RX3 44 yX3_has, .instanceMethod yX3_has, .selects RX3 yX3_has yX3_has, .initialized RX3, .code yX3_has cX3_has 2 (some .boolean), .fieldLink RX3 40 "FixityRows$RowChain" "count" "I"] ++ wsX30)
def wsX3_dayOf : List Cond := .code yX3_dayOf cX3_dayOf 2 (some .int) :: ([.fieldLink RX3 32 "FixityRows$RowChain" "days" "[I", .methodLink RX3 44 yX3_has, .instanceMethod yX3_has, .selects RX3 yX3_has yX3_has, .initialized RX3, .code yX3_has cX3_has 2 (some .boolean), .fieldLink RX3 40 "FixityRows$RowChain" "count" "I"] ++ wsX30)
def wsX3_firstWordOf : List Cond := .code yX3_firstWordOf cX3_firstWordOf 2 (some .int) :: ([.fieldLink RX3 37 "FixityRows$RowChain" "digests" "[[I", .methodLink RX3 44 yX3_has, .instanceMethod yX3_has, .selects RX3 yX3_has yX3_has, .initialized RX3, .code yX3_has cX3_has 2 (some .boolean), .fieldLink RX3 40 "FixityRows$RowChain" "count" "I"] ++ wsX30)
def wsX3_computeDigestOf_r1 : List Cond := [Cond.fieldLink RX3 21 "FixityRows$RowChain" "sealed" "LFixityRows$Octets;", Cond.fieldLink RX3 37 "FixityRows$RowChain" "digests" "[[I", Cond.fieldLink RX3 12 "FixityRows$RowChain" "longDigest" "LFixityRows$LongDigest;", Cond.methodLink RX3 60 yX2_shorten, Cond.instanceMethod yX2_shorten, Cond.selects RX2 yX2_shorten yX2_shorten, Cond.initialized RX2, Cond.code yX2_shorten cX2_shorten 2 none, Cond.fieldLink RX2 15 "FixityRows$Octets" "size" "I", Cond.methodLink RX3 44 yX3_has, Cond.instanceMethod yX3_has, Cond.selects RX3 yX3_has yX3_has, Cond.initialized RX3, Cond.code yX3_has cX3_has 2 (some .boolean), Cond.fieldLink RX3 40 "FixityRows$RowChain" "count" "I", Cond.methodLink RX3 63 yX2_pushWord, Cond.instanceMethod yX2_pushWord, Cond.selects RX2 yX2_pushWord yX2_pushWord, Cond.code yX2_pushWord cX2_pushWord 3 none, Cond.methodLink RX2 19 yX2_push, Cond.instanceMethod yX2_push, Cond.selects RX2 yX2_push yX2_push, Cond.code yX2_push cX2_push 2 none, Cond.fieldLink RX2 9 "FixityRows$Octets" "values" "[I"]
def wsX3_computeDigestOf_r2 : List Cond := [Cond.methodLink RX3 66 yX3_kindOf, Cond.instanceMethod yX3_kindOf, Cond.selects RX3 yX3_kindOf yX3_kindOf, Cond.code yX3_kindOf cX3_kindOf 2 (some .int), Cond.fieldLink RX3 25 "FixityRows$RowChain" "kinds" "[I", Cond.methodLink RX3 70 yX3_fileOf, Cond.instanceMethod yX3_fileOf, Cond.selects RX3 yX3_fileOf yX3_fileOf, Cond.code yX3_fileOf cX3_fileOf 2 (some .int), Cond.fieldLink RX3 29 "FixityRows$RowChain" "fileNumbers" "[I", Cond.methodLink RX3 73 yX3_dayOf, Cond.instanceMethod yX3_dayOf, Cond.selects RX3 yX3_dayOf yX3_dayOf, Cond.code yX3_dayOf cX3_dayOf 2 (some .int), Cond.fieldLink RX3 32 "FixityRows$RowChain" "days" "[I", Cond.methodLink RX3 76 yX1_compute, Cond.instanceMethod yX1_compute, Cond.selects RX1 yX1_compute yX1_compute, Cond.initialized RX1, Cond.code yX1_compute cX1_compute 6 none, Cond.fieldLink RX1 9 "FixityRows$LongDigest" "eight" "[I", Cond.fieldLink RX1 18 "FixityRows$LongDigest" "ROOTS" "[I", Cond.fieldLink RX1 15 "FixityRows$LongDigest" "w" "[I", Cond.methodLink RX1 21 yX2_count]
def wsX3_computeDigestOf_r3 : List Cond := [Cond.instanceMethod yX2_count, Cond.selects RX2 yX2_count yX2_count, Cond.code yX2_count cX2_count 1 (some .int), Cond.methodLink RX1 27 yX1_paddedWord, Cond.static yX1_paddedWord, Cond.code yX1_paddedWord cX1_paddedWord 6 (some .int), Cond.methodLink RX1 37 yX2_value, Cond.instanceMethod yX2_value, Cond.selects RX2 yX2_value yX2_value, Cond.code yX2_value cX2_value 2 (some .int), Cond.methodLink RX1 31 yX1_widen, Cond.instanceMethod yX1_widen, Cond.selects RX1 yX1_widen yX1_widen, Cond.code yX1_widen cX1_widen 2 none, Cond.methodLink RX1 41 yX1_smallSigma0, Cond.static yX1_smallSigma0, Cond.code yX1_smallSigma0 cX1_smallSigma0 1 (some .int), Cond.methodLink RX1 44 yX1_smallSigma1, Cond.static yX1_smallSigma1, Cond.code yX1_smallSigma1 cX1_smallSigma1 1 (some .int), Cond.methodLink RX1 34 yX1_mix, Cond.instanceMethod yX1_mix, Cond.selects RX1 yX1_mix yX1_mix, Cond.code yX1_mix cX1_mix 12 none]
def wsX3_computeDigestOf_r4 : List Cond := [Cond.fieldLink RX1 50 "FixityRows$LongDigest" "K" "[I", Cond.methodLink RX1 47 yX1_bigSigma1, Cond.static yX1_bigSigma1, Cond.code yX1_bigSigma1 cX1_bigSigma1 1 (some .int), Cond.methodLink RX1 53 yX1_bigSigma0, Cond.static yX1_bigSigma0, Cond.code yX1_bigSigma0 cX1_bigSigma0 1 (some .int)]
def wsX3_computeDigestOf : List Cond := .code yX3_computeDigestOf cX3_computeDigestOf 3 none :: ((wsX3_computeDigestOf_r1 ++ (wsX3_computeDigestOf_r2 ++ (wsX3_computeDigestOf_r3 ++ wsX3_computeDigestOf_r4))) ++ wsX30 ++ wsX20 ++ wsX10)
def wsX3_append_r1 : List Cond := [Cond.fieldLink RX3 40 "FixityRows$RowChain" "count" "I", Cond.fieldLink RX3 25 "FixityRows$RowChain" "kinds" "[I", Cond.fieldLink RX3 29 "FixityRows$RowChain" "fileNumbers" "[I", Cond.fieldLink RX3 32 "FixityRows$RowChain" "days" "[I", Cond.fieldLink RX3 12 "FixityRows$RowChain" "longDigest" "LFixityRows$LongDigest;", Cond.fieldLink RX3 37 "FixityRows$RowChain" "digests" "[[I", Cond.methodLink RX3 48 yX3_computeDigestOf, Cond.instanceMethod yX3_computeDigestOf, Cond.selects RX3 yX3_computeDigestOf yX3_computeDigestOf, Cond.initialized RX3, Cond.code yX3_computeDigestOf cX3_computeDigestOf 3 none, Cond.fieldLink RX3 21 "FixityRows$RowChain" "sealed" "LFixityRows$Octets;", Cond.methodLink RX3 60 yX2_shorten, Cond.instanceMethod yX2_shorten, Cond.selects RX2 yX2_shorten yX2_shorten, Cond.initialized RX2, Cond.code yX2_shorten cX2_shorten 2 none, Cond.fieldLink RX2 15 "FixityRows$Octets" "size" "I", Cond.methodLink RX3 44 yX3_has, Cond.instanceMethod yX3_has, Cond.selects RX3 yX3_has yX3_has, Cond.code yX3_has cX3_has 2 (some .boolean), Cond.methodLink RX3 63 yX2_pushWord, Cond.instanceMethod yX2_pushWord]
def wsX3_append_r2 : List Cond := [Cond.selects RX2 yX2_pushWord yX2_pushWord, Cond.code yX2_pushWord cX2_pushWord 3 none, Cond.methodLink RX2 19 yX2_push, Cond.instanceMethod yX2_push, Cond.selects RX2 yX2_push yX2_push, Cond.code yX2_push cX2_push 2 none, Cond.fieldLink RX2 9 "FixityRows$Octets" "values" "[I", Cond.methodLink RX3 66 yX3_kindOf, Cond.instanceMethod yX3_kindOf, Cond.selects RX3 yX3_kindOf yX3_kindOf, Cond.code yX3_kindOf cX3_kindOf 2 (some .int), Cond.methodLink RX3 70 yX3_fileOf, Cond.instanceMethod yX3_fileOf, Cond.selects RX3 yX3_fileOf yX3_fileOf, Cond.code yX3_fileOf cX3_fileOf 2 (some .int), Cond.methodLink RX3 73 yX3_dayOf, Cond.instanceMethod yX3_dayOf, Cond.selects RX3 yX3_dayOf yX3_dayOf, Cond.code yX3_dayOf cX3_dayOf 2 (some .int), Cond.methodLink RX3 76 yX1_compute, Cond.instanceMethod yX1_compute, Cond.selects RX1 yX1_compute yX1_compute, Cond.initialized RX1, Cond.code yX1_compute cX1_compute 6 none]
def wsX3_append_r3 : List Cond := [Cond.fieldLink RX1 9 "FixityRows$LongDigest" "eight" "[I", Cond.fieldLink RX1 18 "FixityRows$LongDigest" "ROOTS" "[I", Cond.fieldLink RX1 15 "FixityRows$LongDigest" "w" "[I", Cond.methodLink RX1 21 yX2_count, Cond.instanceMethod yX2_count, Cond.selects RX2 yX2_count yX2_count, Cond.code yX2_count cX2_count 1 (some .int), Cond.methodLink RX1 27 yX1_paddedWord, Cond.static yX1_paddedWord, Cond.code yX1_paddedWord cX1_paddedWord 6 (some .int), Cond.methodLink RX1 37 yX2_value, Cond.instanceMethod yX2_value, Cond.selects RX2 yX2_value yX2_value, Cond.code yX2_value cX2_value 2 (some .int), Cond.methodLink RX1 31 yX1_widen, Cond.instanceMethod yX1_widen, Cond.selects RX1 yX1_widen yX1_widen, Cond.code yX1_widen cX1_widen 2 none, Cond.methodLink RX1 41 yX1_smallSigma0, Cond.static yX1_smallSigma0, Cond.code yX1_smallSigma0 cX1_smallSigma0 1 (some .int), Cond.methodLink RX1 44 yX1_smallSigma1, Cond.static yX1_smallSigma1, Cond.code yX1_smallSigma1 cX1_smallSigma1 1 (some .int)]
def wsX3_append_r4 : List Cond := [Cond.methodLink RX1 34 yX1_mix, Cond.instanceMethod yX1_mix, Cond.selects RX1 yX1_mix yX1_mix, Cond.code yX1_mix cX1_mix 12 none, Cond.fieldLink RX1 50 "FixityRows$LongDigest" "K" "[I", Cond.methodLink RX1 47 yX1_bigSigma1, Cond.static yX1_bigSigma1, Cond.code yX1_bigSigma1 cX1_bigSigma1 1 (some .int), Cond.methodLink RX1 53 yX1_bigSigma0, Cond.static yX1_bigSigma0, Cond.code yX1_bigSigma0 cX1_bigSigma0 1 (some .int), Cond.methodLink RX3 52 yX1_copyTo, Cond.instanceMethod yX1_copyTo, Cond.selects RX1 yX1_copyTo yX1_copyTo, Cond.code yX1_copyTo cX1_copyTo 3 none]
def wsX3_append : List Cond := .code yX3_append cX3_append 5 none :: ((wsX3_append_r1 ++ (wsX3_append_r2 ++ (wsX3_append_r3 ++ wsX3_append_r4))) ++ wsX30 ++ wsX20 ++ wsX10)
def wsX3_changeDay : List Cond := .code yX3_changeDay cX3_changeDay 3 none :: ([.fieldLink RX3 32 "FixityRows$RowChain" "days" "[I", .methodLink RX3 44 yX3_has, .instanceMethod yX3_has, .selects RX3 yX3_has yX3_has, .initialized RX3, .code yX3_has cX3_has 2 (some .boolean), .fieldLink RX3 40 "FixityRows$RowChain" "count" "I"] ++ wsX30)
def wsX3_remove : List Cond := .code yX3_remove cX3_remove 4 none :: ([.fieldLink RX3 40 "FixityRows$RowChain" "count" "I", .fieldLink RX3 25 "FixityRows$RowChain" "kinds" "[I", .fieldLink RX3 29 "FixityRows$RowChain" "fileNumbers" "[I", .fieldLink RX3 32 "FixityRows$RowChain" "days" "[I", .fieldLink RX3 37 "FixityRows$RowChain" "digests" "[[I", .methodLink RX3 44 yX3_has, .instanceMethod yX3_has, .selects RX3 yX3_has yX3_has, .initialized RX3, .code yX3_has cX3_has 2 (some .boolean)] ++ wsX30)
def wsX3_firstBroken_r1 : List Cond := [Cond.fieldLink RX3 40 "FixityRows$RowChain" "count" "I", Cond.fieldLink RX3 12 "FixityRows$RowChain" "longDigest" "LFixityRows$LongDigest;", Cond.fieldLink RX3 37 "FixityRows$RowChain" "digests" "[[I", Cond.methodLink RX3 48 yX3_computeDigestOf, Cond.instanceMethod yX3_computeDigestOf, Cond.selects RX3 yX3_computeDigestOf yX3_computeDigestOf, Cond.initialized RX3, Cond.code yX3_computeDigestOf cX3_computeDigestOf 3 none, Cond.fieldLink RX3 21 "FixityRows$RowChain" "sealed" "LFixityRows$Octets;", Cond.methodLink RX3 60 yX2_shorten, Cond.instanceMethod yX2_shorten, Cond.selects RX2 yX2_shorten yX2_shorten, Cond.initialized RX2, Cond.code yX2_shorten cX2_shorten 2 none, Cond.fieldLink RX2 15 "FixityRows$Octets" "size" "I", Cond.methodLink RX3 44 yX3_has, Cond.instanceMethod yX3_has, Cond.selects RX3 yX3_has yX3_has, Cond.code yX3_has cX3_has 2 (some .boolean), Cond.methodLink RX3 63 yX2_pushWord, Cond.instanceMethod yX2_pushWord, Cond.selects RX2 yX2_pushWord yX2_pushWord, Cond.code yX2_pushWord cX2_pushWord 3 none, Cond.methodLink RX2 19 yX2_push]
def wsX3_firstBroken_r2 : List Cond := [Cond.instanceMethod yX2_push, Cond.selects RX2 yX2_push yX2_push, Cond.code yX2_push cX2_push 2 none, Cond.fieldLink RX2 9 "FixityRows$Octets" "values" "[I", Cond.methodLink RX3 66 yX3_kindOf, Cond.instanceMethod yX3_kindOf, Cond.selects RX3 yX3_kindOf yX3_kindOf, Cond.code yX3_kindOf cX3_kindOf 2 (some .int), Cond.fieldLink RX3 25 "FixityRows$RowChain" "kinds" "[I", Cond.methodLink RX3 70 yX3_fileOf, Cond.instanceMethod yX3_fileOf, Cond.selects RX3 yX3_fileOf yX3_fileOf, Cond.code yX3_fileOf cX3_fileOf 2 (some .int), Cond.fieldLink RX3 29 "FixityRows$RowChain" "fileNumbers" "[I", Cond.methodLink RX3 73 yX3_dayOf, Cond.instanceMethod yX3_dayOf, Cond.selects RX3 yX3_dayOf yX3_dayOf, Cond.code yX3_dayOf cX3_dayOf 2 (some .int), Cond.fieldLink RX3 32 "FixityRows$RowChain" "days" "[I", Cond.methodLink RX3 76 yX1_compute, Cond.instanceMethod yX1_compute, Cond.selects RX1 yX1_compute yX1_compute, Cond.initialized RX1, Cond.code yX1_compute cX1_compute 6 none]
def wsX3_firstBroken_r3 : List Cond := [Cond.fieldLink RX1 9 "FixityRows$LongDigest" "eight" "[I", Cond.fieldLink RX1 18 "FixityRows$LongDigest" "ROOTS" "[I", Cond.fieldLink RX1 15 "FixityRows$LongDigest" "w" "[I", Cond.methodLink RX1 21 yX2_count, Cond.instanceMethod yX2_count, Cond.selects RX2 yX2_count yX2_count, Cond.code yX2_count cX2_count 1 (some .int), Cond.methodLink RX1 27 yX1_paddedWord, Cond.static yX1_paddedWord, Cond.code yX1_paddedWord cX1_paddedWord 6 (some .int), Cond.methodLink RX1 37 yX2_value, Cond.instanceMethod yX2_value, Cond.selects RX2 yX2_value yX2_value, Cond.code yX2_value cX2_value 2 (some .int), Cond.methodLink RX1 31 yX1_widen, Cond.instanceMethod yX1_widen, Cond.selects RX1 yX1_widen yX1_widen, Cond.code yX1_widen cX1_widen 2 none, Cond.methodLink RX1 41 yX1_smallSigma0, Cond.static yX1_smallSigma0, Cond.code yX1_smallSigma0 cX1_smallSigma0 1 (some .int), Cond.methodLink RX1 44 yX1_smallSigma1, Cond.static yX1_smallSigma1, Cond.code yX1_smallSigma1 cX1_smallSigma1 1 (some .int)]
def wsX3_firstBroken_r4 : List Cond := [Cond.methodLink RX1 34 yX1_mix, Cond.instanceMethod yX1_mix, Cond.selects RX1 yX1_mix yX1_mix, Cond.code yX1_mix cX1_mix 12 none, Cond.fieldLink RX1 50 "FixityRows$LongDigest" "K" "[I", Cond.methodLink RX1 47 yX1_bigSigma1, Cond.static yX1_bigSigma1, Cond.code yX1_bigSigma1 cX1_bigSigma1 1 (some .int), Cond.methodLink RX1 53 yX1_bigSigma0, Cond.static yX1_bigSigma0, Cond.code yX1_bigSigma0 cX1_bigSigma0 1 (some .int), Cond.methodLink RX3 56 yX1_equalTo, Cond.instanceMethod yX1_equalTo, Cond.selects RX1 yX1_equalTo yX1_equalTo, Cond.code yX1_equalTo cX1_equalTo 3 (some .boolean)]
def wsX3_firstBroken : List Cond := .code yX3_firstBroken cX3_firstBroken 2 (some .int) :: ((wsX3_firstBroken_r1 ++ (wsX3_firstBroken_r2 ++ (wsX3_firstBroken_r3 ++ wsX3_firstBroken_r4))) ++ wsX30 ++ wsX20 ++ wsX10)
def wsX4_entry : List Cond := .code yX4_entry cX4_entry 4 (some .int) :: ([.constant RX4 26 (-306674912)])
def wsX4_init : List Cond := .code yX4_init cX4_init 2 none :: ([.methodLink RX4 1 objectInit, .instanceMethod objectInit, .code objectInit ⟨#[0xb1]⟩ 1 none, .arrayClass .int, .fieldLink RX4 9 "FixityRows$ShortDigest" "table" "[I", .methodLink RX4 13 yX4_entry, .static yX4_entry, .initialized RX4, .code yX4_entry cX4_entry 4 (some .int), .constant RX4 26 (-306674912)] ++ wsX40)
def wsX4_compute : List Cond := .code yX4_compute cX4_compute 4 (some .int) :: ([.fieldLink RX4 9 "FixityRows$ShortDigest" "table" "[I", .methodLink RX4 17 yX2_count, .instanceMethod yX2_count, .selects RX2 yX2_count yX2_count, .initialized RX2, .code yX2_count cX2_count 1 (some .int), .fieldLink RX2 15 "FixityRows$Octets" "size" "I", .methodLink RX4 23 yX2_value, .instanceMethod yX2_value, .selects RX2 yX2_value yX2_value, .code yX2_value cX2_value 2 (some .int), .fieldLink RX2 9 "FixityRows$Octets" "values" "[I"] ++ wsX40 ++ wsX20)
def wsX5_init_r1 : List Cond := [Cond.methodLink RX5 1 objectInit, Cond.instanceMethod objectInit, Cond.code objectInit ⟨#[0xb1]⟩ 1 none, Cond.methodLink RX5 9 Lib.Math.min.name, Cond.static Lib.Math.min.name, Cond.initialized "java/lang/Math", Cond.code Lib.Math.min.name Lib.Math.min.code 2 (some .int), Cond.methodLink RX5 15 Lib.Math.max.name, Cond.static Lib.Math.max.name, Cond.code Lib.Math.max.name Lib.Math.max.code 2 (some .int), Cond.fieldLink RX5 18 "FixityRows" "capacity" "I", Cond.classLink RX5 22 RX1, Cond.instantiable RX1 2, Cond.initialized RX1, Cond.fieldLink RX5 25 "FixityRows" "longDigest" "LFixityRows$LongDigest;", Cond.classLink RX5 29 RX4, Cond.instantiable RX4 1, Cond.initialized RX4, Cond.fieldLink RX5 32 "FixityRows" "shortDigest" "LFixityRows$ShortDigest;", Cond.classLink RX5 36 RX2, Cond.instantiable RX2 2, Cond.initialized RX2, Cond.fieldLink RX5 39 "FixityRows" "collected" "LFixityRows$Octets;", Cond.arrayClass .int]
def wsX5_init_r2 : List Cond := [Cond.fieldLink RX5 43 "FixityRows" "latestDigest" "[I", Cond.classLink RX5 47 RX0, Cond.fieldLink RX5 49 "FixityRows" "files" "[LFixityRows$KeptFile;", Cond.instantiable RX0 8, Cond.initialized RX0, Cond.classLink RX5 54 RX3, Cond.instantiable RX3 7, Cond.initialized RX3, Cond.fieldLink RX5 57 "FixityRows" "rows" "LFixityRows$RowChain;", Cond.fieldLink RX5 61 "FixityRows" "checkedFiles" "[I", Cond.arrayClass .boolean, Cond.fieldLink RX5 64 "FixityRows" "checkedFits" "[Z", Cond.fieldLink RX5 68 "FixityRows" "workedDay" "I", Cond.instanceMethod yX1_init, Cond.code yX1_init cX1_init 1 none, Cond.methodLink RX1 3 objectInit, Cond.fieldLink RX1 9 "FixityRows$LongDigest" "eight" "[I", Cond.fieldLink RX1 15 "FixityRows$LongDigest" "w" "[I", Cond.methodLink RX5 31 yX4_init, Cond.instanceMethod yX4_init, Cond.code yX4_init cX4_init 2 none, Cond.methodLink RX4 1 objectInit, Cond.fieldLink RX4 9 "FixityRows$ShortDigest" "table" "[I", Cond.methodLink RX4 13 yX4_entry]
def wsX5_init_r3 : List Cond := [Cond.static yX4_entry, Cond.code yX4_entry cX4_entry 4 (some .int), Cond.constant RX4 26 (-306674912), Cond.instanceMethod yX2_init, Cond.code yX2_init cX2_init 1 none, Cond.methodLink RX2 3 objectInit, Cond.fieldLink RX2 9 "FixityRows$Octets" "values" "[I", Cond.instanceMethod yX0_init, Cond.code yX0_init cX0_init 1 none, Cond.methodLink RX0 3 objectInit, Cond.classLink RX0 9 RX2, Cond.fieldLink RX0 12 "FixityRows$KeptFile" "octets" "LFixityRows$Octets;", Cond.fieldLink RX0 18 "FixityRows$KeptFile" "longWords" "[I", Cond.fieldLink RX0 22 "FixityRows$KeptFile" "fittedDay" "I", Cond.fieldLink RX0 26 "FixityRows$KeptFile" "nextDay" "I", Cond.instanceMethod yX3_init, Cond.code yX3_init cX3_init 1 none, Cond.methodLink RX3 3 objectInit, Cond.classLink RX3 9 RX1, Cond.fieldLink RX3 12 "FixityRows$RowChain" "longDigest" "LFixityRows$LongDigest;", Cond.classLink RX3 18 RX2, Cond.fieldLink RX3 21 "FixityRows$RowChain" "sealed" "LFixityRows$Octets;", Cond.fieldLink RX3 25 "FixityRows$RowChain" "kinds" "[I", Cond.fieldLink RX3 29 "FixityRows$RowChain" "fileNumbers" "[I"]
def wsX5_init_r4 : List Cond := [Cond.fieldLink RX3 32 "FixityRows$RowChain" "days" "[I", Cond.classLink RX3 35 "[[I", Cond.fieldLink RX3 37 "FixityRows$RowChain" "digests" "[[I"]
def wsX5_init : List Cond := .code yX5_init cX5_init 3 none :: ((wsX5_init_r1 ++ (wsX5_init_r2 ++ (wsX5_init_r3 ++ wsX5_init_r4))) ++ wsX50 ++ wsX10 ++ wsX40 ++ wsX20 ++ wsX00 ++ wsX30)
def wsX5_octet : List Cond := .code yX5_octet cX5_octet 2 none :: ([.fieldLink RX5 39 "FixityRows" "collected" "LFixityRows$Octets;", .methodLink RX5 71 yX2_push, .instanceMethod yX2_push, .selects RX2 yX2_push yX2_push, .initialized RX2, .code yX2_push cX2_push 2 none, .fieldLink RX2 15 "FixityRows$Octets" "size" "I", .fieldLink RX2 9 "FixityRows$Octets" "values" "[I"] ++ wsX50 ++ wsX20)
def wsX5_digest_r1 : List Cond := [Cond.fieldLink RX5 25 "FixityRows" "longDigest" "LFixityRows$LongDigest;", Cond.fieldLink RX5 39 "FixityRows" "collected" "LFixityRows$Octets;", Cond.fieldLink RX5 43 "FixityRows" "latestDigest" "[I", Cond.fieldLink RX5 83 "FixityRows" "latestLength" "I", Cond.fieldLink RX5 32 "FixityRows" "shortDigest" "LFixityRows$ShortDigest;", Cond.methodLink RX5 75 yX1_compute, Cond.instanceMethod yX1_compute, Cond.selects RX1 yX1_compute yX1_compute, Cond.initialized RX1, Cond.code yX1_compute cX1_compute 6 none, Cond.fieldLink RX1 9 "FixityRows$LongDigest" "eight" "[I", Cond.fieldLink RX1 18 "FixityRows$LongDigest" "ROOTS" "[I", Cond.fieldLink RX1 15 "FixityRows$LongDigest" "w" "[I", Cond.methodLink RX1 21 yX2_count, Cond.instanceMethod yX2_count, Cond.selects RX2 yX2_count yX2_count, Cond.initialized RX2, Cond.code yX2_count cX2_count 1 (some .int), Cond.fieldLink RX2 15 "FixityRows$Octets" "size" "I", Cond.methodLink RX1 27 yX1_paddedWord, Cond.static yX1_paddedWord, Cond.code yX1_paddedWord cX1_paddedWord 6 (some .int), Cond.methodLink RX1 37 yX2_value, Cond.instanceMethod yX2_value]
def wsX5_digest_r2 : List Cond := [Cond.selects RX2 yX2_value yX2_value, Cond.code yX2_value cX2_value 2 (some .int), Cond.fieldLink RX2 9 "FixityRows$Octets" "values" "[I", Cond.methodLink RX1 31 yX1_widen, Cond.instanceMethod yX1_widen, Cond.selects RX1 yX1_widen yX1_widen, Cond.code yX1_widen cX1_widen 2 none, Cond.methodLink RX1 41 yX1_smallSigma0, Cond.static yX1_smallSigma0, Cond.code yX1_smallSigma0 cX1_smallSigma0 1 (some .int), Cond.methodLink RX1 44 yX1_smallSigma1, Cond.static yX1_smallSigma1, Cond.code yX1_smallSigma1 cX1_smallSigma1 1 (some .int), Cond.methodLink RX1 34 yX1_mix, Cond.instanceMethod yX1_mix, Cond.selects RX1 yX1_mix yX1_mix, Cond.code yX1_mix cX1_mix 12 none, Cond.fieldLink RX1 50 "FixityRows$LongDigest" "K" "[I", Cond.methodLink RX1 47 yX1_bigSigma1, Cond.static yX1_bigSigma1, Cond.code yX1_bigSigma1 cX1_bigSigma1 1 (some .int), Cond.methodLink RX1 53 yX1_bigSigma0, Cond.static yX1_bigSigma0, Cond.code yX1_bigSigma0 cX1_bigSigma0 1 (some .int)]
def wsX5_digest_r3 : List Cond := [Cond.methodLink RX5 79 yX1_copyTo, Cond.instanceMethod yX1_copyTo, Cond.selects RX1 yX1_copyTo yX1_copyTo, Cond.code yX1_copyTo cX1_copyTo 3 none, Cond.methodLink RX5 86 yX4_compute, Cond.instanceMethod yX4_compute, Cond.selects RX4 yX4_compute yX4_compute, Cond.initialized RX4, Cond.code yX4_compute cX4_compute 4 (some .int), Cond.fieldLink RX4 9 "FixityRows$ShortDigest" "table" "[I", Cond.methodLink RX4 17 yX2_count, Cond.methodLink RX4 23 yX2_value]
def wsX5_digest : List Cond := .code yX5_digest cX5_digest 2 (some .int) :: ((wsX5_digest_r1 ++ (wsX5_digest_r2 ++ wsX5_digest_r3)) ++ wsX50 ++ wsX10 ++ wsX20 ++ wsX40)
def wsX5_at : List Cond := .code yX5_at cX5_at 2 (some .int) :: ([.fieldLink RX5 83 "FixityRows" "latestLength" "I", .classLink RX5 89 RJx00060, .instantiable RJx00060 6, .initialized RJx00060, .fieldLink RX5 43 "FixityRows" "latestDigest" "[I"] ++ wsX50 ++ wsJx000600)
def wsX5_isDay : List Cond := .code yX5_isDay cX5_isDay 1 (some .boolean) :: ([.constant RX5 201 (1000000)])
def wsX5_file_r1 : List Cond := [Cond.fieldLink RX5 100 "FixityRows" "fileCount" "I", Cond.fieldLink RX5 49 "FixityRows" "files" "[LFixityRows$KeptFile;", Cond.fieldLink RX5 39 "FixityRows" "collected" "LFixityRows$Octets;", Cond.fieldLink RX5 25 "FixityRows" "longDigest" "LFixityRows$LongDigest;", Cond.fieldLink RX5 32 "FixityRows" "shortDigest" "LFixityRows$ShortDigest;", Cond.fieldLink RX5 57 "FixityRows" "rows" "LFixityRows$RowChain;", Cond.methodLink RX5 96 yX5_isDay, Cond.static yX5_isDay, Cond.initialized RX5, Cond.code yX5_isDay cX5_isDay 1 (some .boolean), Cond.constant RX5 201 (1000000), Cond.methodLink RX5 106 yX2_copyFrom, Cond.instanceMethod yX2_copyFrom, Cond.selects RX2 yX2_copyFrom yX2_copyFrom, Cond.initialized RX2, Cond.code yX2_copyFrom cX2_copyFrom 3 none, Cond.fieldLink RX2 15 "FixityRows$Octets" "size" "I", Cond.fieldLink RX2 9 "FixityRows$Octets" "values" "[I", Cond.methodLink RX5 75 yX1_compute, Cond.instanceMethod yX1_compute, Cond.selects RX1 yX1_compute yX1_compute, Cond.initialized RX1, Cond.code yX1_compute cX1_compute 6 none, Cond.fieldLink RX1 9 "FixityRows$LongDigest" "eight" "[I"]
def wsX5_file_r2 : List Cond := [Cond.fieldLink RX1 18 "FixityRows$LongDigest" "ROOTS" "[I", Cond.fieldLink RX1 15 "FixityRows$LongDigest" "w" "[I", Cond.methodLink RX1 21 yX2_count, Cond.instanceMethod yX2_count, Cond.selects RX2 yX2_count yX2_count, Cond.code yX2_count cX2_count 1 (some .int), Cond.methodLink RX1 27 yX1_paddedWord, Cond.static yX1_paddedWord, Cond.code yX1_paddedWord cX1_paddedWord 6 (some .int), Cond.methodLink RX1 37 yX2_value, Cond.instanceMethod yX2_value, Cond.selects RX2 yX2_value yX2_value, Cond.code yX2_value cX2_value 2 (some .int), Cond.methodLink RX1 31 yX1_widen, Cond.instanceMethod yX1_widen, Cond.selects RX1 yX1_widen yX1_widen, Cond.code yX1_widen cX1_widen 2 none, Cond.methodLink RX1 41 yX1_smallSigma0, Cond.static yX1_smallSigma0, Cond.code yX1_smallSigma0 cX1_smallSigma0 1 (some .int), Cond.methodLink RX1 44 yX1_smallSigma1, Cond.static yX1_smallSigma1, Cond.code yX1_smallSigma1 cX1_smallSigma1 1 (some .int), Cond.methodLink RX1 34 yX1_mix]
def wsX5_file_r3 : List Cond := [Cond.instanceMethod yX1_mix, Cond.selects RX1 yX1_mix yX1_mix, Cond.code yX1_mix cX1_mix 12 none, Cond.fieldLink RX1 50 "FixityRows$LongDigest" "K" "[I", Cond.methodLink RX1 47 yX1_bigSigma1, Cond.static yX1_bigSigma1, Cond.code yX1_bigSigma1 cX1_bigSigma1 1 (some .int), Cond.methodLink RX1 53 yX1_bigSigma0, Cond.static yX1_bigSigma0, Cond.code yX1_bigSigma0 cX1_bigSigma0 1 (some .int), Cond.methodLink RX5 79 yX1_copyTo, Cond.instanceMethod yX1_copyTo, Cond.selects RX1 yX1_copyTo yX1_copyTo, Cond.code yX1_copyTo cX1_copyTo 3 none, Cond.methodLink RX5 86 yX4_compute, Cond.instanceMethod yX4_compute, Cond.selects RX4 yX4_compute yX4_compute, Cond.initialized RX4, Cond.code yX4_compute cX4_compute 4 (some .int), Cond.fieldLink RX4 9 "FixityRows$ShortDigest" "table" "[I", Cond.methodLink RX4 17 yX2_count, Cond.methodLink RX4 23 yX2_value, Cond.methodLink RX5 118 yX2_shorten, Cond.instanceMethod yX2_shorten]
def wsX5_file_r4 : List Cond := [Cond.selects RX2 yX2_shorten yX2_shorten, Cond.code yX2_shorten cX2_shorten 2 none, Cond.methodLink RX5 121 yX3_append, Cond.instanceMethod yX3_append, Cond.selects RX3 yX3_append yX3_append, Cond.initialized RX3, Cond.code yX3_append cX3_append 5 none, Cond.fieldLink RX3 40 "FixityRows$RowChain" "count" "I", Cond.fieldLink RX3 25 "FixityRows$RowChain" "kinds" "[I", Cond.fieldLink RX3 29 "FixityRows$RowChain" "fileNumbers" "[I", Cond.fieldLink RX3 32 "FixityRows$RowChain" "days" "[I", Cond.fieldLink RX3 12 "FixityRows$RowChain" "longDigest" "LFixityRows$LongDigest;", Cond.fieldLink RX3 37 "FixityRows$RowChain" "digests" "[[I", Cond.methodLink RX3 48 yX3_computeDigestOf, Cond.instanceMethod yX3_computeDigestOf, Cond.selects RX3 yX3_computeDigestOf yX3_computeDigestOf, Cond.code yX3_computeDigestOf cX3_computeDigestOf 3 none, Cond.fieldLink RX3 21 "FixityRows$RowChain" "sealed" "LFixityRows$Octets;", Cond.methodLink RX3 60 yX2_shorten, Cond.methodLink RX3 44 yX3_has, Cond.instanceMethod yX3_has, Cond.selects RX3 yX3_has yX3_has, Cond.code yX3_has cX3_has 2 (some .boolean), Cond.methodLink RX3 63 yX2_pushWord]
def wsX5_file_r5 : List Cond := [Cond.instanceMethod yX2_pushWord, Cond.selects RX2 yX2_pushWord yX2_pushWord, Cond.code yX2_pushWord cX2_pushWord 3 none, Cond.methodLink RX2 19 yX2_push, Cond.instanceMethod yX2_push, Cond.selects RX2 yX2_push yX2_push, Cond.code yX2_push cX2_push 2 none, Cond.methodLink RX3 66 yX3_kindOf, Cond.instanceMethod yX3_kindOf, Cond.selects RX3 yX3_kindOf yX3_kindOf, Cond.code yX3_kindOf cX3_kindOf 2 (some .int), Cond.methodLink RX3 70 yX3_fileOf, Cond.instanceMethod yX3_fileOf, Cond.selects RX3 yX3_fileOf yX3_fileOf, Cond.code yX3_fileOf cX3_fileOf 2 (some .int), Cond.methodLink RX3 73 yX3_dayOf, Cond.instanceMethod yX3_dayOf, Cond.selects RX3 yX3_dayOf yX3_dayOf, Cond.code yX3_dayOf cX3_dayOf 2 (some .int), Cond.methodLink RX3 76 yX1_compute, Cond.methodLink RX3 52 yX1_copyTo]
def wsX5_file : List Cond := .code yX5_file cX5_file 5 (some .int) :: ((wsX5_file_r1 ++ (wsX5_file_r2 ++ (wsX5_file_r3 ++ (wsX5_file_r4 ++ wsX5_file_r5)))) ++ wsX50 ++ wsX00 ++ wsX20 ++ wsX10 ++ wsX40 ++ wsX30)
def wsX5_isFile : List Cond := .code yX5_isFile cX5_isFile 2 (some .boolean) :: ([.fieldLink RX5 100 "FixityRows" "fileCount" "I"] ++ wsX50)
def wsX5_alter : List Cond := .code yX5_alter cX5_alter 6 (some .int) :: ([.fieldLink RX5 49 "FixityRows" "files" "[LFixityRows$KeptFile;", .methodLink RX5 125 yX5_isFile, .instanceMethod yX5_isFile, .selects RX5 yX5_isFile yX5_isFile, .initialized RX5, .code yX5_isFile cX5_isFile 2 (some .boolean), .fieldLink RX5 100 "FixityRows" "fileCount" "I", .methodLink RX5 128 yX2_has, .instanceMethod yX2_has, .selects RX2 yX2_has yX2_has, .initialized RX2, .code yX2_has cX2_has 2 (some .boolean), .fieldLink RX2 15 "FixityRows$Octets" "size" "I", .methodLink RX5 131 yX2_value, .instanceMethod yX2_value, .selects RX2 yX2_value yX2_value, .code yX2_value cX2_value 2 (some .int), .fieldLink RX2 9 "FixityRows$Octets" "values" "[I", .methodLink RX5 135 yX2_replace, .instanceMethod yX2_replace, .selects RX2 yX2_replace yX2_replace, .code yX2_replace cX2_replace 3 none, .methodLink RX2 23 yX2_has] ++ wsX50 ++ wsX00 ++ wsX20)
def wsX5_cut : List Cond := .code yX5_cut cX5_cut 5 (some .int) :: ([.fieldLink RX5 49 "FixityRows" "files" "[LFixityRows$KeptFile;", .methodLink RX5 125 yX5_isFile, .instanceMethod yX5_isFile, .selects RX5 yX5_isFile yX5_isFile, .initialized RX5, .code yX5_isFile cX5_isFile 2 (some .boolean), .fieldLink RX5 100 "FixityRows" "fileCount" "I", .methodLink RX5 139 yX2_count, .instanceMethod yX2_count, .selects RX2 yX2_count yX2_count, .initialized RX2, .code yX2_count cX2_count 1 (some .int), .fieldLink RX2 15 "FixityRows$Octets" "size" "I", .methodLink RX5 118 yX2_shorten, .instanceMethod yX2_shorten, .selects RX2 yX2_shorten yX2_shorten, .code yX2_shorten cX2_shorten 2 none] ++ wsX50 ++ wsX00 ++ wsX20)
def wsX5_matches_r1 : List Cond := [Cond.fieldLink RX5 32 "FixityRows" "shortDigest" "LFixityRows$ShortDigest;", Cond.fieldLink RX5 25 "FixityRows" "longDigest" "LFixityRows$LongDigest;", Cond.methodLink RX5 86 yX4_compute, Cond.instanceMethod yX4_compute, Cond.selects RX4 yX4_compute yX4_compute, Cond.initialized RX4, Cond.code yX4_compute cX4_compute 4 (some .int), Cond.fieldLink RX4 9 "FixityRows$ShortDigest" "table" "[I", Cond.methodLink RX4 17 yX2_count, Cond.instanceMethod yX2_count, Cond.selects RX2 yX2_count yX2_count, Cond.initialized RX2, Cond.code yX2_count cX2_count 1 (some .int), Cond.fieldLink RX2 15 "FixityRows$Octets" "size" "I", Cond.methodLink RX4 23 yX2_value, Cond.instanceMethod yX2_value, Cond.selects RX2 yX2_value yX2_value, Cond.code yX2_value cX2_value 2 (some .int), Cond.fieldLink RX2 9 "FixityRows$Octets" "values" "[I", Cond.methodLink RX5 75 yX1_compute, Cond.instanceMethod yX1_compute, Cond.selects RX1 yX1_compute yX1_compute, Cond.initialized RX1, Cond.code yX1_compute cX1_compute 6 none]
def wsX5_matches_r2 : List Cond := [Cond.fieldLink RX1 9 "FixityRows$LongDigest" "eight" "[I", Cond.fieldLink RX1 18 "FixityRows$LongDigest" "ROOTS" "[I", Cond.fieldLink RX1 15 "FixityRows$LongDigest" "w" "[I", Cond.methodLink RX1 21 yX2_count, Cond.methodLink RX1 27 yX1_paddedWord, Cond.static yX1_paddedWord, Cond.code yX1_paddedWord cX1_paddedWord 6 (some .int), Cond.methodLink RX1 37 yX2_value, Cond.methodLink RX1 31 yX1_widen, Cond.instanceMethod yX1_widen, Cond.selects RX1 yX1_widen yX1_widen, Cond.code yX1_widen cX1_widen 2 none, Cond.methodLink RX1 41 yX1_smallSigma0, Cond.static yX1_smallSigma0, Cond.code yX1_smallSigma0 cX1_smallSigma0 1 (some .int), Cond.methodLink RX1 44 yX1_smallSigma1, Cond.static yX1_smallSigma1, Cond.code yX1_smallSigma1 cX1_smallSigma1 1 (some .int), Cond.methodLink RX1 34 yX1_mix, Cond.instanceMethod yX1_mix, Cond.selects RX1 yX1_mix yX1_mix, Cond.code yX1_mix cX1_mix 12 none, Cond.fieldLink RX1 50 "FixityRows$LongDigest" "K" "[I", Cond.methodLink RX1 47 yX1_bigSigma1]
def wsX5_matches_r3 : List Cond := [Cond.static yX1_bigSigma1, Cond.code yX1_bigSigma1 cX1_bigSigma1 1 (some .int), Cond.methodLink RX1 53 yX1_bigSigma0, Cond.static yX1_bigSigma0, Cond.code yX1_bigSigma0 cX1_bigSigma0 1 (some .int), Cond.methodLink RX5 202 yX1_equalTo, Cond.instanceMethod yX1_equalTo, Cond.selects RX1 yX1_equalTo yX1_equalTo, Cond.code yX1_equalTo cX1_equalTo 3 (some .boolean)]
def wsX5_matches : List Cond := .code yX5_matches cX5_matches 3 (some .boolean) :: ((wsX5_matches_r1 ++ (wsX5_matches_r2 ++ wsX5_matches_r3)) ++ wsX00 ++ wsX50 ++ wsX40 ++ wsX20 ++ wsX10)
def wsX5_check_r1 : List Cond := [Cond.fieldLink RX5 49 "FixityRows" "files" "[LFixityRows$KeptFile;", Cond.fieldLink RX5 57 "FixityRows" "rows" "LFixityRows$RowChain;", Cond.methodLink RX5 162 yX5_matches, Cond.instanceMethod yX5_matches, Cond.selects RX5 yX5_matches yX5_matches, Cond.initialized RX5, Cond.code yX5_matches cX5_matches 3 (some .boolean), Cond.fieldLink RX5 32 "FixityRows" "shortDigest" "LFixityRows$ShortDigest;", Cond.fieldLink RX5 25 "FixityRows" "longDigest" "LFixityRows$LongDigest;", Cond.methodLink RX5 86 yX4_compute, Cond.instanceMethod yX4_compute, Cond.selects RX4 yX4_compute yX4_compute, Cond.initialized RX4, Cond.code yX4_compute cX4_compute 4 (some .int), Cond.fieldLink RX4 9 "FixityRows$ShortDigest" "table" "[I", Cond.methodLink RX4 17 yX2_count, Cond.instanceMethod yX2_count, Cond.selects RX2 yX2_count yX2_count, Cond.initialized RX2, Cond.code yX2_count cX2_count 1 (some .int), Cond.fieldLink RX2 15 "FixityRows$Octets" "size" "I", Cond.methodLink RX4 23 yX2_value, Cond.instanceMethod yX2_value, Cond.selects RX2 yX2_value yX2_value]
def wsX5_check_r2 : List Cond := [Cond.code yX2_value cX2_value 2 (some .int), Cond.fieldLink RX2 9 "FixityRows$Octets" "values" "[I", Cond.methodLink RX5 75 yX1_compute, Cond.instanceMethod yX1_compute, Cond.selects RX1 yX1_compute yX1_compute, Cond.initialized RX1, Cond.code yX1_compute cX1_compute 6 none, Cond.fieldLink RX1 9 "FixityRows$LongDigest" "eight" "[I", Cond.fieldLink RX1 18 "FixityRows$LongDigest" "ROOTS" "[I", Cond.fieldLink RX1 15 "FixityRows$LongDigest" "w" "[I", Cond.methodLink RX1 21 yX2_count, Cond.methodLink RX1 27 yX1_paddedWord, Cond.static yX1_paddedWord, Cond.code yX1_paddedWord cX1_paddedWord 6 (some .int), Cond.methodLink RX1 37 yX2_value, Cond.methodLink RX1 31 yX1_widen, Cond.instanceMethod yX1_widen, Cond.selects RX1 yX1_widen yX1_widen, Cond.code yX1_widen cX1_widen 2 none, Cond.methodLink RX1 41 yX1_smallSigma0, Cond.static yX1_smallSigma0, Cond.code yX1_smallSigma0 cX1_smallSigma0 1 (some .int), Cond.methodLink RX1 44 yX1_smallSigma1, Cond.static yX1_smallSigma1]
def wsX5_check_r3 : List Cond := [Cond.code yX1_smallSigma1 cX1_smallSigma1 1 (some .int), Cond.methodLink RX1 34 yX1_mix, Cond.instanceMethod yX1_mix, Cond.selects RX1 yX1_mix yX1_mix, Cond.code yX1_mix cX1_mix 12 none, Cond.fieldLink RX1 50 "FixityRows$LongDigest" "K" "[I", Cond.methodLink RX1 47 yX1_bigSigma1, Cond.static yX1_bigSigma1, Cond.code yX1_bigSigma1 cX1_bigSigma1 1 (some .int), Cond.methodLink RX1 53 yX1_bigSigma0, Cond.static yX1_bigSigma0, Cond.code yX1_bigSigma0 cX1_bigSigma0 1 (some .int), Cond.methodLink RX5 202 yX1_equalTo, Cond.instanceMethod yX1_equalTo, Cond.selects RX1 yX1_equalTo yX1_equalTo, Cond.code yX1_equalTo cX1_equalTo 3 (some .boolean), Cond.methodLink RX5 121 yX3_append, Cond.instanceMethod yX3_append, Cond.selects RX3 yX3_append yX3_append, Cond.initialized RX3, Cond.code yX3_append cX3_append 5 none, Cond.fieldLink RX3 40 "FixityRows$RowChain" "count" "I", Cond.fieldLink RX3 25 "FixityRows$RowChain" "kinds" "[I", Cond.fieldLink RX3 29 "FixityRows$RowChain" "fileNumbers" "[I"]
def wsX5_check_r4 : List Cond := [Cond.fieldLink RX3 32 "FixityRows$RowChain" "days" "[I", Cond.fieldLink RX3 12 "FixityRows$RowChain" "longDigest" "LFixityRows$LongDigest;", Cond.fieldLink RX3 37 "FixityRows$RowChain" "digests" "[[I", Cond.methodLink RX3 48 yX3_computeDigestOf, Cond.instanceMethod yX3_computeDigestOf, Cond.selects RX3 yX3_computeDigestOf yX3_computeDigestOf, Cond.code yX3_computeDigestOf cX3_computeDigestOf 3 none, Cond.fieldLink RX3 21 "FixityRows$RowChain" "sealed" "LFixityRows$Octets;", Cond.methodLink RX3 60 yX2_shorten, Cond.instanceMethod yX2_shorten, Cond.selects RX2 yX2_shorten yX2_shorten, Cond.code yX2_shorten cX2_shorten 2 none, Cond.methodLink RX3 44 yX3_has, Cond.instanceMethod yX3_has, Cond.selects RX3 yX3_has yX3_has, Cond.code yX3_has cX3_has 2 (some .boolean), Cond.methodLink RX3 63 yX2_pushWord, Cond.instanceMethod yX2_pushWord, Cond.selects RX2 yX2_pushWord yX2_pushWord, Cond.code yX2_pushWord cX2_pushWord 3 none, Cond.methodLink RX2 19 yX2_push, Cond.instanceMethod yX2_push, Cond.selects RX2 yX2_push yX2_push, Cond.code yX2_push cX2_push 2 none]
def wsX5_check_r5 : List Cond := [Cond.methodLink RX3 66 yX3_kindOf, Cond.instanceMethod yX3_kindOf, Cond.selects RX3 yX3_kindOf yX3_kindOf, Cond.code yX3_kindOf cX3_kindOf 2 (some .int), Cond.methodLink RX3 70 yX3_fileOf, Cond.instanceMethod yX3_fileOf, Cond.selects RX3 yX3_fileOf yX3_fileOf, Cond.code yX3_fileOf cX3_fileOf 2 (some .int), Cond.methodLink RX3 73 yX3_dayOf, Cond.instanceMethod yX3_dayOf, Cond.selects RX3 yX3_dayOf yX3_dayOf, Cond.code yX3_dayOf cX3_dayOf 2 (some .int), Cond.methodLink RX3 76 yX1_compute, Cond.methodLink RX3 52 yX1_copyTo, Cond.instanceMethod yX1_copyTo, Cond.selects RX1 yX1_copyTo yX1_copyTo, Cond.code yX1_copyTo cX1_copyTo 3 none]
def wsX5_check : List Cond := .code yX5_check cX5_check 5 (some .boolean) :: ((wsX5_check_r1 ++ (wsX5_check_r2 ++ (wsX5_check_r3 ++ (wsX5_check_r4 ++ wsX5_check_r5)))) ++ wsX50 ++ wsX00 ++ wsX40 ++ wsX20 ++ wsX10 ++ wsX30)
def wsX5_read_r1 : List Cond := [Cond.methodLink RX5 125 yX5_isFile, Cond.instanceMethod yX5_isFile, Cond.selects RX5 yX5_isFile yX5_isFile, Cond.initialized RX5, Cond.code yX5_isFile cX5_isFile 2 (some .boolean), Cond.fieldLink RX5 100 "FixityRows" "fileCount" "I", Cond.methodLink RX5 96 yX5_isDay, Cond.static yX5_isDay, Cond.code yX5_isDay cX5_isDay 1 (some .boolean), Cond.constant RX5 201 (1000000), Cond.methodLink RX5 143 yX5_check, Cond.instanceMethod yX5_check, Cond.selects RX5 yX5_check yX5_check, Cond.code yX5_check cX5_check 5 (some .boolean), Cond.fieldLink RX5 49 "FixityRows" "files" "[LFixityRows$KeptFile;", Cond.fieldLink RX5 57 "FixityRows" "rows" "LFixityRows$RowChain;", Cond.methodLink RX5 162 yX5_matches, Cond.instanceMethod yX5_matches, Cond.selects RX5 yX5_matches yX5_matches, Cond.code yX5_matches cX5_matches 3 (some .boolean), Cond.fieldLink RX5 32 "FixityRows" "shortDigest" "LFixityRows$ShortDigest;", Cond.fieldLink RX5 25 "FixityRows" "longDigest" "LFixityRows$LongDigest;", Cond.methodLink RX5 86 yX4_compute, Cond.instanceMethod yX4_compute]
def wsX5_read_r2 : List Cond := [Cond.selects RX4 yX4_compute yX4_compute, Cond.initialized RX4, Cond.code yX4_compute cX4_compute 4 (some .int), Cond.fieldLink RX4 9 "FixityRows$ShortDigest" "table" "[I", Cond.methodLink RX4 17 yX2_count, Cond.instanceMethod yX2_count, Cond.selects RX2 yX2_count yX2_count, Cond.initialized RX2, Cond.code yX2_count cX2_count 1 (some .int), Cond.fieldLink RX2 15 "FixityRows$Octets" "size" "I", Cond.methodLink RX4 23 yX2_value, Cond.instanceMethod yX2_value, Cond.selects RX2 yX2_value yX2_value, Cond.code yX2_value cX2_value 2 (some .int), Cond.fieldLink RX2 9 "FixityRows$Octets" "values" "[I", Cond.methodLink RX5 75 yX1_compute, Cond.instanceMethod yX1_compute, Cond.selects RX1 yX1_compute yX1_compute, Cond.initialized RX1, Cond.code yX1_compute cX1_compute 6 none, Cond.fieldLink RX1 9 "FixityRows$LongDigest" "eight" "[I", Cond.fieldLink RX1 18 "FixityRows$LongDigest" "ROOTS" "[I", Cond.fieldLink RX1 15 "FixityRows$LongDigest" "w" "[I", Cond.methodLink RX1 21 yX2_count]
def wsX5_read_r3 : List Cond := [Cond.methodLink RX1 27 yX1_paddedWord, Cond.static yX1_paddedWord, Cond.code yX1_paddedWord cX1_paddedWord 6 (some .int), Cond.methodLink RX1 37 yX2_value, Cond.methodLink RX1 31 yX1_widen, Cond.instanceMethod yX1_widen, Cond.selects RX1 yX1_widen yX1_widen, Cond.code yX1_widen cX1_widen 2 none, Cond.methodLink RX1 41 yX1_smallSigma0, Cond.static yX1_smallSigma0, Cond.code yX1_smallSigma0 cX1_smallSigma0 1 (some .int), Cond.methodLink RX1 44 yX1_smallSigma1, Cond.static yX1_smallSigma1, Cond.code yX1_smallSigma1 cX1_smallSigma1 1 (some .int), Cond.methodLink RX1 34 yX1_mix, Cond.instanceMethod yX1_mix, Cond.selects RX1 yX1_mix yX1_mix, Cond.code yX1_mix cX1_mix 12 none, Cond.fieldLink RX1 50 "FixityRows$LongDigest" "K" "[I", Cond.methodLink RX1 47 yX1_bigSigma1, Cond.static yX1_bigSigma1, Cond.code yX1_bigSigma1 cX1_bigSigma1 1 (some .int), Cond.methodLink RX1 53 yX1_bigSigma0, Cond.static yX1_bigSigma0]
def wsX5_read_r4 : List Cond := [Cond.code yX1_bigSigma0 cX1_bigSigma0 1 (some .int), Cond.methodLink RX5 202 yX1_equalTo, Cond.instanceMethod yX1_equalTo, Cond.selects RX1 yX1_equalTo yX1_equalTo, Cond.code yX1_equalTo cX1_equalTo 3 (some .boolean), Cond.methodLink RX5 121 yX3_append, Cond.instanceMethod yX3_append, Cond.selects RX3 yX3_append yX3_append, Cond.initialized RX3, Cond.code yX3_append cX3_append 5 none, Cond.fieldLink RX3 40 "FixityRows$RowChain" "count" "I", Cond.fieldLink RX3 25 "FixityRows$RowChain" "kinds" "[I", Cond.fieldLink RX3 29 "FixityRows$RowChain" "fileNumbers" "[I", Cond.fieldLink RX3 32 "FixityRows$RowChain" "days" "[I", Cond.fieldLink RX3 12 "FixityRows$RowChain" "longDigest" "LFixityRows$LongDigest;", Cond.fieldLink RX3 37 "FixityRows$RowChain" "digests" "[[I", Cond.methodLink RX3 48 yX3_computeDigestOf, Cond.instanceMethod yX3_computeDigestOf, Cond.selects RX3 yX3_computeDigestOf yX3_computeDigestOf, Cond.code yX3_computeDigestOf cX3_computeDigestOf 3 none, Cond.fieldLink RX3 21 "FixityRows$RowChain" "sealed" "LFixityRows$Octets;", Cond.methodLink RX3 60 yX2_shorten, Cond.instanceMethod yX2_shorten, Cond.selects RX2 yX2_shorten yX2_shorten]
def wsX5_read_r5 : List Cond := [Cond.code yX2_shorten cX2_shorten 2 none, Cond.methodLink RX3 44 yX3_has, Cond.instanceMethod yX3_has, Cond.selects RX3 yX3_has yX3_has, Cond.code yX3_has cX3_has 2 (some .boolean), Cond.methodLink RX3 63 yX2_pushWord, Cond.instanceMethod yX2_pushWord, Cond.selects RX2 yX2_pushWord yX2_pushWord, Cond.code yX2_pushWord cX2_pushWord 3 none, Cond.methodLink RX2 19 yX2_push, Cond.instanceMethod yX2_push, Cond.selects RX2 yX2_push yX2_push, Cond.code yX2_push cX2_push 2 none, Cond.methodLink RX3 66 yX3_kindOf, Cond.instanceMethod yX3_kindOf, Cond.selects RX3 yX3_kindOf yX3_kindOf, Cond.code yX3_kindOf cX3_kindOf 2 (some .int), Cond.methodLink RX3 70 yX3_fileOf, Cond.instanceMethod yX3_fileOf, Cond.selects RX3 yX3_fileOf yX3_fileOf, Cond.code yX3_fileOf cX3_fileOf 2 (some .int), Cond.methodLink RX3 73 yX3_dayOf, Cond.instanceMethod yX3_dayOf, Cond.selects RX3 yX3_dayOf yX3_dayOf]
def wsX5_read_r6 : List Cond := [Cond.code yX3_dayOf cX3_dayOf 2 (some .int), Cond.methodLink RX3 76 yX1_compute, Cond.methodLink RX3 52 yX1_copyTo, Cond.instanceMethod yX1_copyTo, Cond.selects RX1 yX1_copyTo yX1_copyTo, Cond.code yX1_copyTo cX1_copyTo 3 none]
def wsX5_read : List Cond := .code yX5_read cX5_read 3 (some .int) :: ((wsX5_read_r1 ++ (wsX5_read_r2 ++ (wsX5_read_r3 ++ (wsX5_read_r4 ++ (wsX5_read_r5 ++ wsX5_read_r6))))) ++ wsX50 ++ wsX00 ++ wsX40 ++ wsX20 ++ wsX10 ++ wsX30)
def wsX5_schedule : List Cond := .code yX5_schedule cX5_schedule 4 (some .int) :: ([.fieldLink RX5 49 "FixityRows" "files" "[LFixityRows$KeptFile;", .methodLink RX5 125 yX5_isFile, .instanceMethod yX5_isFile, .selects RX5 yX5_isFile yX5_isFile, .initialized RX5, .code yX5_isFile cX5_isFile 2 (some .boolean), .fieldLink RX5 100 "FixityRows" "fileCount" "I", .methodLink RX5 96 yX5_isDay, .static yX5_isDay, .code yX5_isDay cX5_isDay 1 (some .boolean), .constant RX5 201 (1000000), .methodLink RX5 147 yX0_plan, .instanceMethod yX0_plan, .selects RX0 yX0_plan yX0_plan, .initialized RX0, .code yX0_plan cX0_plan 3 none, .fieldLink RX0 26 "FixityRows$KeptFile" "nextDay" "I", .fieldLink RX0 29 "FixityRows$KeptFile" "span" "I"] ++ wsX50 ++ wsX00)
def wsX5_longestWaiting : List Cond := .code yX5_longestWaiting cX5_longestWaiting 6 (some .int) :: ([.fieldLink RX5 100 "FixityRows" "fileCount" "I", .fieldLink RX5 49 "FixityRows" "files" "[LFixityRows$KeptFile;", .methodLink RX5 206 yX0_isWaiting, .instanceMethod yX0_isWaiting, .selects RX0 yX0_isWaiting yX0_isWaiting, .initialized RX0, .code yX0_isWaiting cX0_isWaiting 2 (some .boolean), .fieldLink RX0 29 "FixityRows$KeptFile" "span" "I", .fieldLink RX0 26 "FixityRows$KeptFile" "nextDay" "I"] ++ wsX50 ++ wsX00)
def wsX5_countWaiting : List Cond := .code yX5_countWaiting cX5_countWaiting 4 (some .int) :: ([.fieldLink RX5 100 "FixityRows" "fileCount" "I", .fieldLink RX5 49 "FixityRows" "files" "[LFixityRows$KeptFile;", .methodLink RX5 206 yX0_isWaiting, .instanceMethod yX0_isWaiting, .selects RX0 yX0_isWaiting yX0_isWaiting, .initialized RX0, .code yX0_isWaiting cX0_isWaiting 2 (some .boolean), .fieldLink RX0 29 "FixityRows$KeptFile" "span" "I", .fieldLink RX0 26 "FixityRows$KeptFile" "nextDay" "I"] ++ wsX50 ++ wsX00)
def wsX5_due_r1 : List Cond := [Cond.fieldLink RX5 68 "FixityRows" "workedDay" "I", Cond.fieldLink RX5 150 "FixityRows" "checkedCount" "I", Cond.fieldLink RX5 18 "FixityRows" "capacity" "I", Cond.fieldLink RX5 61 "FixityRows" "checkedFiles" "[I", Cond.fieldLink RX5 64 "FixityRows" "checkedFits" "[Z", Cond.fieldLink RX5 49 "FixityRows" "files" "[LFixityRows$KeptFile;", Cond.methodLink RX5 96 yX5_isDay, Cond.static yX5_isDay, Cond.initialized RX5, Cond.code yX5_isDay cX5_isDay 1 (some .boolean), Cond.constant RX5 201 (1000000), Cond.methodLink RX5 153 yX5_longestWaiting, Cond.instanceMethod yX5_longestWaiting, Cond.selects RX5 yX5_longestWaiting yX5_longestWaiting, Cond.code yX5_longestWaiting cX5_longestWaiting 6 (some .int), Cond.fieldLink RX5 100 "FixityRows" "fileCount" "I", Cond.methodLink RX5 206 yX0_isWaiting, Cond.instanceMethod yX0_isWaiting, Cond.selects RX0 yX0_isWaiting yX0_isWaiting, Cond.initialized RX0, Cond.code yX0_isWaiting cX0_isWaiting 2 (some .boolean), Cond.fieldLink RX0 29 "FixityRows$KeptFile" "span" "I", Cond.fieldLink RX0 26 "FixityRows$KeptFile" "nextDay" "I", Cond.methodLink RX5 143 yX5_check]
def wsX5_due_r2 : List Cond := [Cond.instanceMethod yX5_check, Cond.selects RX5 yX5_check yX5_check, Cond.code yX5_check cX5_check 5 (some .boolean), Cond.fieldLink RX5 57 "FixityRows" "rows" "LFixityRows$RowChain;", Cond.methodLink RX5 162 yX5_matches, Cond.instanceMethod yX5_matches, Cond.selects RX5 yX5_matches yX5_matches, Cond.code yX5_matches cX5_matches 3 (some .boolean), Cond.fieldLink RX5 32 "FixityRows" "shortDigest" "LFixityRows$ShortDigest;", Cond.fieldLink RX5 25 "FixityRows" "longDigest" "LFixityRows$LongDigest;", Cond.methodLink RX5 86 yX4_compute, Cond.instanceMethod yX4_compute, Cond.selects RX4 yX4_compute yX4_compute, Cond.initialized RX4, Cond.code yX4_compute cX4_compute 4 (some .int), Cond.fieldLink RX4 9 "FixityRows$ShortDigest" "table" "[I", Cond.methodLink RX4 17 yX2_count, Cond.instanceMethod yX2_count, Cond.selects RX2 yX2_count yX2_count, Cond.initialized RX2, Cond.code yX2_count cX2_count 1 (some .int), Cond.fieldLink RX2 15 "FixityRows$Octets" "size" "I", Cond.methodLink RX4 23 yX2_value, Cond.instanceMethod yX2_value]
def wsX5_due_r3 : List Cond := [Cond.selects RX2 yX2_value yX2_value, Cond.code yX2_value cX2_value 2 (some .int), Cond.fieldLink RX2 9 "FixityRows$Octets" "values" "[I", Cond.methodLink RX5 75 yX1_compute, Cond.instanceMethod yX1_compute, Cond.selects RX1 yX1_compute yX1_compute, Cond.initialized RX1, Cond.code yX1_compute cX1_compute 6 none, Cond.fieldLink RX1 9 "FixityRows$LongDigest" "eight" "[I", Cond.fieldLink RX1 18 "FixityRows$LongDigest" "ROOTS" "[I", Cond.fieldLink RX1 15 "FixityRows$LongDigest" "w" "[I", Cond.methodLink RX1 21 yX2_count, Cond.methodLink RX1 27 yX1_paddedWord, Cond.static yX1_paddedWord, Cond.code yX1_paddedWord cX1_paddedWord 6 (some .int), Cond.methodLink RX1 37 yX2_value, Cond.methodLink RX1 31 yX1_widen, Cond.instanceMethod yX1_widen, Cond.selects RX1 yX1_widen yX1_widen, Cond.code yX1_widen cX1_widen 2 none, Cond.methodLink RX1 41 yX1_smallSigma0, Cond.static yX1_smallSigma0, Cond.code yX1_smallSigma0 cX1_smallSigma0 1 (some .int), Cond.methodLink RX1 44 yX1_smallSigma1]
def wsX5_due_r4 : List Cond := [Cond.static yX1_smallSigma1, Cond.code yX1_smallSigma1 cX1_smallSigma1 1 (some .int), Cond.methodLink RX1 34 yX1_mix, Cond.instanceMethod yX1_mix, Cond.selects RX1 yX1_mix yX1_mix, Cond.code yX1_mix cX1_mix 12 none, Cond.fieldLink RX1 50 "FixityRows$LongDigest" "K" "[I", Cond.methodLink RX1 47 yX1_bigSigma1, Cond.static yX1_bigSigma1, Cond.code yX1_bigSigma1 cX1_bigSigma1 1 (some .int), Cond.methodLink RX1 53 yX1_bigSigma0, Cond.static yX1_bigSigma0, Cond.code yX1_bigSigma0 cX1_bigSigma0 1 (some .int), Cond.methodLink RX5 202 yX1_equalTo, Cond.instanceMethod yX1_equalTo, Cond.selects RX1 yX1_equalTo yX1_equalTo, Cond.code yX1_equalTo cX1_equalTo 3 (some .boolean), Cond.methodLink RX5 121 yX3_append, Cond.instanceMethod yX3_append, Cond.selects RX3 yX3_append yX3_append, Cond.initialized RX3, Cond.code yX3_append cX3_append 5 none, Cond.fieldLink RX3 40 "FixityRows$RowChain" "count" "I", Cond.fieldLink RX3 25 "FixityRows$RowChain" "kinds" "[I"]
def wsX5_due_r5 : List Cond := [Cond.fieldLink RX3 29 "FixityRows$RowChain" "fileNumbers" "[I", Cond.fieldLink RX3 32 "FixityRows$RowChain" "days" "[I", Cond.fieldLink RX3 12 "FixityRows$RowChain" "longDigest" "LFixityRows$LongDigest;", Cond.fieldLink RX3 37 "FixityRows$RowChain" "digests" "[[I", Cond.methodLink RX3 48 yX3_computeDigestOf, Cond.instanceMethod yX3_computeDigestOf, Cond.selects RX3 yX3_computeDigestOf yX3_computeDigestOf, Cond.code yX3_computeDigestOf cX3_computeDigestOf 3 none, Cond.fieldLink RX3 21 "FixityRows$RowChain" "sealed" "LFixityRows$Octets;", Cond.methodLink RX3 60 yX2_shorten, Cond.instanceMethod yX2_shorten, Cond.selects RX2 yX2_shorten yX2_shorten, Cond.code yX2_shorten cX2_shorten 2 none, Cond.methodLink RX3 44 yX3_has, Cond.instanceMethod yX3_has, Cond.selects RX3 yX3_has yX3_has, Cond.code yX3_has cX3_has 2 (some .boolean), Cond.methodLink RX3 63 yX2_pushWord, Cond.instanceMethod yX2_pushWord, Cond.selects RX2 yX2_pushWord yX2_pushWord, Cond.code yX2_pushWord cX2_pushWord 3 none, Cond.methodLink RX2 19 yX2_push, Cond.instanceMethod yX2_push, Cond.selects RX2 yX2_push yX2_push]
def wsX5_due_r6 : List Cond := [Cond.code yX2_push cX2_push 2 none, Cond.methodLink RX3 66 yX3_kindOf, Cond.instanceMethod yX3_kindOf, Cond.selects RX3 yX3_kindOf yX3_kindOf, Cond.code yX3_kindOf cX3_kindOf 2 (some .int), Cond.methodLink RX3 70 yX3_fileOf, Cond.instanceMethod yX3_fileOf, Cond.selects RX3 yX3_fileOf yX3_fileOf, Cond.code yX3_fileOf cX3_fileOf 2 (some .int), Cond.methodLink RX3 73 yX3_dayOf, Cond.instanceMethod yX3_dayOf, Cond.selects RX3 yX3_dayOf yX3_dayOf, Cond.code yX3_dayOf cX3_dayOf 2 (some .int), Cond.methodLink RX3 76 yX1_compute, Cond.methodLink RX3 52 yX1_copyTo, Cond.instanceMethod yX1_copyTo, Cond.selects RX1 yX1_copyTo yX1_copyTo, Cond.code yX1_copyTo cX1_copyTo 3 none, Cond.methodLink RX5 156 yX0_planBehind, Cond.instanceMethod yX0_planBehind, Cond.selects RX0 yX0_planBehind yX0_planBehind, Cond.code yX0_planBehind cX0_planBehind 2 none, Cond.methodLink RX0 32 yX0_isWaiting, Cond.methodLink RX5 159 yX5_countWaiting]
def wsX5_due_r7 : List Cond := [Cond.instanceMethod yX5_countWaiting, Cond.selects RX5 yX5_countWaiting yX5_countWaiting, Cond.code yX5_countWaiting cX5_countWaiting 4 (some .int)]
def wsX5_due : List Cond := .code yX5_due cX5_due 4 (some .int) :: ((wsX5_due_r1 ++ (wsX5_due_r2 ++ (wsX5_due_r3 ++ (wsX5_due_r4 ++ (wsX5_due_r5 ++ (wsX5_due_r6 ++ wsX5_due_r7)))))) ++ wsX50 ++ wsX00 ++ wsX40 ++ wsX20 ++ wsX10 ++ wsX30)
def wsX5_told : List Cond := .code yX5_told cX5_told 3 (some .int) :: ([.fieldLink RX5 150 "FixityRows" "checkedCount" "I", .fieldLink RX5 61 "FixityRows" "checkedFiles" "[I", .fieldLink RX5 64 "FixityRows" "checkedFits" "[Z"] ++ wsX50)
def wsX5_firstCopyFor_r1 : List Cond := [Cond.fieldLink RX5 100 "FixityRows" "fileCount" "I", Cond.fieldLink RX5 49 "FixityRows" "files" "[LFixityRows$KeptFile;", Cond.methodLink RX5 162 yX5_matches, Cond.instanceMethod yX5_matches, Cond.selects RX5 yX5_matches yX5_matches, Cond.initialized RX5, Cond.code yX5_matches cX5_matches 3 (some .boolean), Cond.fieldLink RX5 32 "FixityRows" "shortDigest" "LFixityRows$ShortDigest;", Cond.fieldLink RX5 25 "FixityRows" "longDigest" "LFixityRows$LongDigest;", Cond.methodLink RX5 86 yX4_compute, Cond.instanceMethod yX4_compute, Cond.selects RX4 yX4_compute yX4_compute, Cond.initialized RX4, Cond.code yX4_compute cX4_compute 4 (some .int), Cond.fieldLink RX4 9 "FixityRows$ShortDigest" "table" "[I", Cond.methodLink RX4 17 yX2_count, Cond.instanceMethod yX2_count, Cond.selects RX2 yX2_count yX2_count, Cond.initialized RX2, Cond.code yX2_count cX2_count 1 (some .int), Cond.fieldLink RX2 15 "FixityRows$Octets" "size" "I", Cond.methodLink RX4 23 yX2_value, Cond.instanceMethod yX2_value, Cond.selects RX2 yX2_value yX2_value]
def wsX5_firstCopyFor_r2 : List Cond := [Cond.code yX2_value cX2_value 2 (some .int), Cond.fieldLink RX2 9 "FixityRows$Octets" "values" "[I", Cond.methodLink RX5 75 yX1_compute, Cond.instanceMethod yX1_compute, Cond.selects RX1 yX1_compute yX1_compute, Cond.initialized RX1, Cond.code yX1_compute cX1_compute 6 none, Cond.fieldLink RX1 9 "FixityRows$LongDigest" "eight" "[I", Cond.fieldLink RX1 18 "FixityRows$LongDigest" "ROOTS" "[I", Cond.fieldLink RX1 15 "FixityRows$LongDigest" "w" "[I", Cond.methodLink RX1 21 yX2_count, Cond.methodLink RX1 27 yX1_paddedWord, Cond.static yX1_paddedWord, Cond.code yX1_paddedWord cX1_paddedWord 6 (some .int), Cond.methodLink RX1 37 yX2_value, Cond.methodLink RX1 31 yX1_widen, Cond.instanceMethod yX1_widen, Cond.selects RX1 yX1_widen yX1_widen, Cond.code yX1_widen cX1_widen 2 none, Cond.methodLink RX1 41 yX1_smallSigma0, Cond.static yX1_smallSigma0, Cond.code yX1_smallSigma0 cX1_smallSigma0 1 (some .int), Cond.methodLink RX1 44 yX1_smallSigma1, Cond.static yX1_smallSigma1]
def wsX5_firstCopyFor_r3 : List Cond := [Cond.code yX1_smallSigma1 cX1_smallSigma1 1 (some .int), Cond.methodLink RX1 34 yX1_mix, Cond.instanceMethod yX1_mix, Cond.selects RX1 yX1_mix yX1_mix, Cond.code yX1_mix cX1_mix 12 none, Cond.fieldLink RX1 50 "FixityRows$LongDigest" "K" "[I", Cond.methodLink RX1 47 yX1_bigSigma1, Cond.static yX1_bigSigma1, Cond.code yX1_bigSigma1 cX1_bigSigma1 1 (some .int), Cond.methodLink RX1 53 yX1_bigSigma0, Cond.static yX1_bigSigma0, Cond.code yX1_bigSigma0 cX1_bigSigma0 1 (some .int), Cond.methodLink RX5 202 yX1_equalTo, Cond.instanceMethod yX1_equalTo, Cond.selects RX1 yX1_equalTo yX1_equalTo, Cond.code yX1_equalTo cX1_equalTo 3 (some .boolean)]
def wsX5_firstCopyFor : List Cond := .code yX5_firstCopyFor cX5_firstCopyFor 4 (some .int) :: ((wsX5_firstCopyFor_r1 ++ (wsX5_firstCopyFor_r2 ++ wsX5_firstCopyFor_r3)) ++ wsX50 ++ wsX00 ++ wsX40 ++ wsX20 ++ wsX10)
def wsX5_mend_r1 : List Cond := [Cond.fieldLink RX5 49 "FixityRows" "files" "[LFixityRows$KeptFile;", Cond.fieldLink RX5 57 "FixityRows" "rows" "LFixityRows$RowChain;", Cond.methodLink RX5 125 yX5_isFile, Cond.instanceMethod yX5_isFile, Cond.selects RX5 yX5_isFile yX5_isFile, Cond.initialized RX5, Cond.code yX5_isFile cX5_isFile 2 (some .boolean), Cond.fieldLink RX5 100 "FixityRows" "fileCount" "I", Cond.methodLink RX5 96 yX5_isDay, Cond.static yX5_isDay, Cond.code yX5_isDay cX5_isDay 1 (some .boolean), Cond.constant RX5 201 (1000000), Cond.methodLink RX5 162 yX5_matches, Cond.instanceMethod yX5_matches, Cond.selects RX5 yX5_matches yX5_matches, Cond.code yX5_matches cX5_matches 3 (some .boolean), Cond.fieldLink RX5 32 "FixityRows" "shortDigest" "LFixityRows$ShortDigest;", Cond.fieldLink RX5 25 "FixityRows" "longDigest" "LFixityRows$LongDigest;", Cond.methodLink RX5 86 yX4_compute, Cond.instanceMethod yX4_compute, Cond.selects RX4 yX4_compute yX4_compute, Cond.initialized RX4, Cond.code yX4_compute cX4_compute 4 (some .int), Cond.fieldLink RX4 9 "FixityRows$ShortDigest" "table" "[I"]
def wsX5_mend_r2 : List Cond := [Cond.methodLink RX4 17 yX2_count, Cond.instanceMethod yX2_count, Cond.selects RX2 yX2_count yX2_count, Cond.initialized RX2, Cond.code yX2_count cX2_count 1 (some .int), Cond.fieldLink RX2 15 "FixityRows$Octets" "size" "I", Cond.methodLink RX4 23 yX2_value, Cond.instanceMethod yX2_value, Cond.selects RX2 yX2_value yX2_value, Cond.code yX2_value cX2_value 2 (some .int), Cond.fieldLink RX2 9 "FixityRows$Octets" "values" "[I", Cond.methodLink RX5 75 yX1_compute, Cond.instanceMethod yX1_compute, Cond.selects RX1 yX1_compute yX1_compute, Cond.initialized RX1, Cond.code yX1_compute cX1_compute 6 none, Cond.fieldLink RX1 9 "FixityRows$LongDigest" "eight" "[I", Cond.fieldLink RX1 18 "FixityRows$LongDigest" "ROOTS" "[I", Cond.fieldLink RX1 15 "FixityRows$LongDigest" "w" "[I", Cond.methodLink RX1 21 yX2_count, Cond.methodLink RX1 27 yX1_paddedWord, Cond.static yX1_paddedWord, Cond.code yX1_paddedWord cX1_paddedWord 6 (some .int), Cond.methodLink RX1 37 yX2_value]
def wsX5_mend_r3 : List Cond := [Cond.methodLink RX1 31 yX1_widen, Cond.instanceMethod yX1_widen, Cond.selects RX1 yX1_widen yX1_widen, Cond.code yX1_widen cX1_widen 2 none, Cond.methodLink RX1 41 yX1_smallSigma0, Cond.static yX1_smallSigma0, Cond.code yX1_smallSigma0 cX1_smallSigma0 1 (some .int), Cond.methodLink RX1 44 yX1_smallSigma1, Cond.static yX1_smallSigma1, Cond.code yX1_smallSigma1 cX1_smallSigma1 1 (some .int), Cond.methodLink RX1 34 yX1_mix, Cond.instanceMethod yX1_mix, Cond.selects RX1 yX1_mix yX1_mix, Cond.code yX1_mix cX1_mix 12 none, Cond.fieldLink RX1 50 "FixityRows$LongDigest" "K" "[I", Cond.methodLink RX1 47 yX1_bigSigma1, Cond.static yX1_bigSigma1, Cond.code yX1_bigSigma1 cX1_bigSigma1 1 (some .int), Cond.methodLink RX1 53 yX1_bigSigma0, Cond.static yX1_bigSigma0, Cond.code yX1_bigSigma0 cX1_bigSigma0 1 (some .int), Cond.methodLink RX5 202 yX1_equalTo, Cond.instanceMethod yX1_equalTo, Cond.selects RX1 yX1_equalTo yX1_equalTo]
def wsX5_mend_r4 : List Cond := [Cond.code yX1_equalTo cX1_equalTo 3 (some .boolean), Cond.methodLink RX5 166 yX5_firstCopyFor, Cond.instanceMethod yX5_firstCopyFor, Cond.selects RX5 yX5_firstCopyFor yX5_firstCopyFor, Cond.code yX5_firstCopyFor cX5_firstCopyFor 4 (some .int), Cond.methodLink RX5 106 yX2_copyFrom, Cond.instanceMethod yX2_copyFrom, Cond.selects RX2 yX2_copyFrom yX2_copyFrom, Cond.code yX2_copyFrom cX2_copyFrom 3 none, Cond.methodLink RX5 121 yX3_append, Cond.instanceMethod yX3_append, Cond.selects RX3 yX3_append yX3_append, Cond.initialized RX3, Cond.code yX3_append cX3_append 5 none, Cond.fieldLink RX3 40 "FixityRows$RowChain" "count" "I", Cond.fieldLink RX3 25 "FixityRows$RowChain" "kinds" "[I", Cond.fieldLink RX3 29 "FixityRows$RowChain" "fileNumbers" "[I", Cond.fieldLink RX3 32 "FixityRows$RowChain" "days" "[I", Cond.fieldLink RX3 12 "FixityRows$RowChain" "longDigest" "LFixityRows$LongDigest;", Cond.fieldLink RX3 37 "FixityRows$RowChain" "digests" "[[I", Cond.methodLink RX3 48 yX3_computeDigestOf, Cond.instanceMethod yX3_computeDigestOf, Cond.selects RX3 yX3_computeDigestOf yX3_computeDigestOf, Cond.code yX3_computeDigestOf cX3_computeDigestOf 3 none]
def wsX5_mend_r5 : List Cond := [Cond.fieldLink RX3 21 "FixityRows$RowChain" "sealed" "LFixityRows$Octets;", Cond.methodLink RX3 60 yX2_shorten, Cond.instanceMethod yX2_shorten, Cond.selects RX2 yX2_shorten yX2_shorten, Cond.code yX2_shorten cX2_shorten 2 none, Cond.methodLink RX3 44 yX3_has, Cond.instanceMethod yX3_has, Cond.selects RX3 yX3_has yX3_has, Cond.code yX3_has cX3_has 2 (some .boolean), Cond.methodLink RX3 63 yX2_pushWord, Cond.instanceMethod yX2_pushWord, Cond.selects RX2 yX2_pushWord yX2_pushWord, Cond.code yX2_pushWord cX2_pushWord 3 none, Cond.methodLink RX2 19 yX2_push, Cond.instanceMethod yX2_push, Cond.selects RX2 yX2_push yX2_push, Cond.code yX2_push cX2_push 2 none, Cond.methodLink RX3 66 yX3_kindOf, Cond.instanceMethod yX3_kindOf, Cond.selects RX3 yX3_kindOf yX3_kindOf, Cond.code yX3_kindOf cX3_kindOf 2 (some .int), Cond.methodLink RX3 70 yX3_fileOf, Cond.instanceMethod yX3_fileOf, Cond.selects RX3 yX3_fileOf yX3_fileOf]
def wsX5_mend_r6 : List Cond := [Cond.code yX3_fileOf cX3_fileOf 2 (some .int), Cond.methodLink RX3 73 yX3_dayOf, Cond.instanceMethod yX3_dayOf, Cond.selects RX3 yX3_dayOf yX3_dayOf, Cond.code yX3_dayOf cX3_dayOf 2 (some .int), Cond.methodLink RX3 76 yX1_compute, Cond.methodLink RX3 52 yX1_copyTo, Cond.instanceMethod yX1_copyTo, Cond.selects RX1 yX1_copyTo yX1_copyTo, Cond.code yX1_copyTo cX1_copyTo 3 none]
def wsX5_mend : List Cond := .code yX5_mend cX5_mend 5 (some .int) :: ((wsX5_mend_r1 ++ (wsX5_mend_r2 ++ (wsX5_mend_r3 ++ (wsX5_mend_r4 ++ (wsX5_mend_r5 ++ wsX5_mend_r6))))) ++ wsX50 ++ wsX00 ++ wsX40 ++ wsX20 ++ wsX10 ++ wsX30)
def wsX5_about : List Cond := .code yX5_about cX5_about 4 (some .int) :: ([.fieldLink RX5 49 "FixityRows" "files" "[LFixityRows$KeptFile;", .methodLink RX5 125 yX5_isFile, .instanceMethod yX5_isFile, .selects RX5 yX5_isFile yX5_isFile, .initialized RX5, .code yX5_isFile cX5_isFile 2 (some .boolean), .fieldLink RX5 100 "FixityRows" "fileCount" "I", .methodLink RX5 139 yX2_count, .instanceMethod yX2_count, .selects RX2 yX2_count yX2_count, .initialized RX2, .code yX2_count cX2_count 1 (some .int), .fieldLink RX2 15 "FixityRows$Octets" "size" "I"] ++ wsX50 ++ wsX00 ++ wsX20)
def wsX5_row_r1 : List Cond := [Cond.fieldLink RX5 57 "FixityRows" "rows" "LFixityRows$RowChain;", Cond.methodLink RX5 179 yX3_has, Cond.instanceMethod yX3_has, Cond.selects RX3 yX3_has yX3_has, Cond.initialized RX3, Cond.code yX3_has cX3_has 2 (some .boolean), Cond.fieldLink RX3 40 "FixityRows$RowChain" "count" "I", Cond.methodLink RX5 180 yX3_kindOf, Cond.instanceMethod yX3_kindOf, Cond.selects RX3 yX3_kindOf yX3_kindOf, Cond.code yX3_kindOf cX3_kindOf 2 (some .int), Cond.fieldLink RX3 25 "FixityRows$RowChain" "kinds" "[I", Cond.methodLink RX3 44 yX3_has, Cond.methodLink RX5 183 yX3_fileOf, Cond.instanceMethod yX3_fileOf, Cond.selects RX3 yX3_fileOf yX3_fileOf, Cond.code yX3_fileOf cX3_fileOf 2 (some .int), Cond.fieldLink RX3 29 "FixityRows$RowChain" "fileNumbers" "[I", Cond.methodLink RX5 186 yX3_dayOf, Cond.instanceMethod yX3_dayOf, Cond.selects RX3 yX3_dayOf yX3_dayOf, Cond.code yX3_dayOf cX3_dayOf 2 (some .int), Cond.fieldLink RX3 32 "FixityRows$RowChain" "days" "[I", Cond.methodLink RX5 189 yX3_firstWordOf]
def wsX5_row_r2 : List Cond := [Cond.instanceMethod yX3_firstWordOf, Cond.selects RX3 yX3_firstWordOf yX3_firstWordOf, Cond.code yX3_firstWordOf cX3_firstWordOf 2 (some .int), Cond.fieldLink RX3 37 "FixityRows$RowChain" "digests" "[[I"]
def wsX5_row : List Cond := .code yX5_row cX5_row 3 (some .int) :: ((wsX5_row_r1 ++ wsX5_row_r2) ++ wsX50 ++ wsX30)
def wsX5_spoil : List Cond := .code yX5_spoil cX5_spoil 3 (some .int) :: ([.fieldLink RX5 57 "FixityRows" "rows" "LFixityRows$RowChain;", .methodLink RX5 179 yX3_has, .instanceMethod yX3_has, .selects RX3 yX3_has yX3_has, .initialized RX3, .code yX3_has cX3_has 2 (some .boolean), .fieldLink RX3 40 "FixityRows$RowChain" "count" "I", .methodLink RX5 192 yX3_remove, .instanceMethod yX3_remove, .selects RX3 yX3_remove yX3_remove, .code yX3_remove cX3_remove 4 none, .fieldLink RX3 25 "FixityRows$RowChain" "kinds" "[I", .fieldLink RX3 29 "FixityRows$RowChain" "fileNumbers" "[I", .fieldLink RX3 32 "FixityRows$RowChain" "days" "[I", .fieldLink RX3 37 "FixityRows$RowChain" "digests" "[[I", .methodLink RX3 44 yX3_has, .methodLink RX5 195 yX3_changeDay, .instanceMethod yX3_changeDay, .selects RX3 yX3_changeDay yX3_changeDay, .code yX3_changeDay cX3_changeDay 3 none] ++ wsX50 ++ wsX30)
def wsX5_chain_r1 : List Cond := [Cond.fieldLink RX5 57 "FixityRows" "rows" "LFixityRows$RowChain;", Cond.methodLink RX5 198 yX3_firstBroken, Cond.instanceMethod yX3_firstBroken, Cond.selects RX3 yX3_firstBroken yX3_firstBroken, Cond.initialized RX3, Cond.code yX3_firstBroken cX3_firstBroken 2 (some .int), Cond.fieldLink RX3 40 "FixityRows$RowChain" "count" "I", Cond.fieldLink RX3 12 "FixityRows$RowChain" "longDigest" "LFixityRows$LongDigest;", Cond.fieldLink RX3 37 "FixityRows$RowChain" "digests" "[[I", Cond.methodLink RX3 48 yX3_computeDigestOf, Cond.instanceMethod yX3_computeDigestOf, Cond.selects RX3 yX3_computeDigestOf yX3_computeDigestOf, Cond.code yX3_computeDigestOf cX3_computeDigestOf 3 none, Cond.fieldLink RX3 21 "FixityRows$RowChain" "sealed" "LFixityRows$Octets;", Cond.methodLink RX3 60 yX2_shorten, Cond.instanceMethod yX2_shorten, Cond.selects RX2 yX2_shorten yX2_shorten, Cond.initialized RX2, Cond.code yX2_shorten cX2_shorten 2 none, Cond.fieldLink RX2 15 "FixityRows$Octets" "size" "I", Cond.methodLink RX3 44 yX3_has, Cond.instanceMethod yX3_has, Cond.selects RX3 yX3_has yX3_has, Cond.code yX3_has cX3_has 2 (some .boolean)]
def wsX5_chain_r2 : List Cond := [Cond.methodLink RX3 63 yX2_pushWord, Cond.instanceMethod yX2_pushWord, Cond.selects RX2 yX2_pushWord yX2_pushWord, Cond.code yX2_pushWord cX2_pushWord 3 none, Cond.methodLink RX2 19 yX2_push, Cond.instanceMethod yX2_push, Cond.selects RX2 yX2_push yX2_push, Cond.code yX2_push cX2_push 2 none, Cond.fieldLink RX2 9 "FixityRows$Octets" "values" "[I", Cond.methodLink RX3 66 yX3_kindOf, Cond.instanceMethod yX3_kindOf, Cond.selects RX3 yX3_kindOf yX3_kindOf, Cond.code yX3_kindOf cX3_kindOf 2 (some .int), Cond.fieldLink RX3 25 "FixityRows$RowChain" "kinds" "[I", Cond.methodLink RX3 70 yX3_fileOf, Cond.instanceMethod yX3_fileOf, Cond.selects RX3 yX3_fileOf yX3_fileOf, Cond.code yX3_fileOf cX3_fileOf 2 (some .int), Cond.fieldLink RX3 29 "FixityRows$RowChain" "fileNumbers" "[I", Cond.methodLink RX3 73 yX3_dayOf, Cond.instanceMethod yX3_dayOf, Cond.selects RX3 yX3_dayOf yX3_dayOf, Cond.code yX3_dayOf cX3_dayOf 2 (some .int), Cond.fieldLink RX3 32 "FixityRows$RowChain" "days" "[I"]
def wsX5_chain_r3 : List Cond := [Cond.methodLink RX3 76 yX1_compute, Cond.instanceMethod yX1_compute, Cond.selects RX1 yX1_compute yX1_compute, Cond.initialized RX1, Cond.code yX1_compute cX1_compute 6 none, Cond.fieldLink RX1 9 "FixityRows$LongDigest" "eight" "[I", Cond.fieldLink RX1 18 "FixityRows$LongDigest" "ROOTS" "[I", Cond.fieldLink RX1 15 "FixityRows$LongDigest" "w" "[I", Cond.methodLink RX1 21 yX2_count, Cond.instanceMethod yX2_count, Cond.selects RX2 yX2_count yX2_count, Cond.code yX2_count cX2_count 1 (some .int), Cond.methodLink RX1 27 yX1_paddedWord, Cond.static yX1_paddedWord, Cond.code yX1_paddedWord cX1_paddedWord 6 (some .int), Cond.methodLink RX1 37 yX2_value, Cond.instanceMethod yX2_value, Cond.selects RX2 yX2_value yX2_value, Cond.code yX2_value cX2_value 2 (some .int), Cond.methodLink RX1 31 yX1_widen, Cond.instanceMethod yX1_widen, Cond.selects RX1 yX1_widen yX1_widen, Cond.code yX1_widen cX1_widen 2 none, Cond.methodLink RX1 41 yX1_smallSigma0]
def wsX5_chain_r4 : List Cond := [Cond.static yX1_smallSigma0, Cond.code yX1_smallSigma0 cX1_smallSigma0 1 (some .int), Cond.methodLink RX1 44 yX1_smallSigma1, Cond.static yX1_smallSigma1, Cond.code yX1_smallSigma1 cX1_smallSigma1 1 (some .int), Cond.methodLink RX1 34 yX1_mix, Cond.instanceMethod yX1_mix, Cond.selects RX1 yX1_mix yX1_mix, Cond.code yX1_mix cX1_mix 12 none, Cond.fieldLink RX1 50 "FixityRows$LongDigest" "K" "[I", Cond.methodLink RX1 47 yX1_bigSigma1, Cond.static yX1_bigSigma1, Cond.code yX1_bigSigma1 cX1_bigSigma1 1 (some .int), Cond.methodLink RX1 53 yX1_bigSigma0, Cond.static yX1_bigSigma0, Cond.code yX1_bigSigma0 cX1_bigSigma0 1 (some .int), Cond.methodLink RX3 56 yX1_equalTo, Cond.instanceMethod yX1_equalTo, Cond.selects RX1 yX1_equalTo yX1_equalTo, Cond.code yX1_equalTo cX1_equalTo 3 (some .boolean)]
def wsX5_chain : List Cond := .code yX5_chain cX5_chain 1 (some .int) :: ((wsX5_chain_r1 ++ (wsX5_chain_r2 ++ (wsX5_chain_r3 ++ wsX5_chain_r4))) ++ wsX50 ++ wsX30 ++ wsX20 ++ wsX10)
def wsX6_init_r1 : List Cond := [Cond.methodLink RX6 1 objectInit, Cond.instanceMethod objectInit, Cond.code objectInit ⟨#[0xb1]⟩ 1 none, Cond.arrayClass .byte, Cond.fieldLink RX6 7 "FixityRowsModel" "said" "[B", Cond.fieldLink RX6 13 "FixityRowsModel" "bytes" "[B", Cond.arrayClass .int, Cond.fieldLink RX6 16 "FixityRowsModel" "size" "[I", Cond.fieldLink RX6 20 "FixityRowsModel" "algorithms" "[I", Cond.fieldLink RX6 23 "FixityRowsModel" "wanted" "[B", Cond.fieldLink RX6 26 "FixityRowsModel" "fitted" "[I", Cond.fieldLink RX6 29 "FixityRowsModel" "mended" "[I", Cond.fieldLink RX6 32 "FixityRowsModel" "due" "[I", Cond.fieldLink RX6 35 "FixityRowsModel" "span" "[I", Cond.fieldLink RX6 38 "FixityRowsModel" "worked" "I", Cond.fieldLink RX6 42 "FixityRowsModel" "toldFile" "[I", Cond.arrayClass .boolean, Cond.fieldLink RX6 45 "FixityRowsModel" "toldFits" "[Z", Cond.fieldLink RX6 49 "FixityRowsModel" "rowWhat" "[I", Cond.fieldLink RX6 52 "FixityRowsModel" "rowFile" "[I", Cond.fieldLink RX6 55 "FixityRowsModel" "rowDay" "[I", Cond.fieldLink RX6 58 "FixityRowsModel" "rowDigest" "[B", Cond.fieldLink RX6 61 "FixityRowsModel" "show" "[B", Cond.fieldLink RX6 64 "FixityRowsModel" "buffer" "[B"]
def wsX6_init_r2 : List Cond := [Cond.fieldLink RX6 67 "FixityRowsModel" "made" "[B", Cond.fieldLink RX6 70 "FixityRowsModel" "w" "[I", Cond.fieldLink RX6 73 "FixityRowsModel" "h" "[I", Cond.fieldLink RX6 76 "FixityRowsModel" "v" "[I", Cond.constant RX6 79 (1779033703), Cond.constant RX6 80 (-1150833019), Cond.constant RX6 81 (1013904242), Cond.constant RX6 82 (-1521486534), Cond.constant RX6 83 (1359893119), Cond.constant RX6 84 (-1694144372), Cond.constant RX6 85 (528734635), Cond.constant RX6 86 (1541459225), Cond.fieldLink RX6 87 "FixityRowsModel" "begins" "[I", Cond.constant RX6 90 (1116352408), Cond.constant RX6 91 (1899447441), Cond.constant RX6 92 (-1245643825), Cond.constant RX6 93 (-373957723), Cond.constant RX6 94 (961987163), Cond.constant RX6 95 (1508970993), Cond.constant RX6 96 (-1841331548), Cond.constant RX6 97 (-1424204075), Cond.constant RX6 98 (-670586216), Cond.constant RX6 99 (310598401), Cond.constant RX6 100 (607225278)]
def wsX6_init_r3 : List Cond := [Cond.constant RX6 101 (1426881987), Cond.constant RX6 102 (1925078388), Cond.constant RX6 103 (-2132889090), Cond.constant RX6 104 (-1680079193), Cond.constant RX6 105 (-1046744716), Cond.constant RX6 106 (-459576895), Cond.constant RX6 107 (-272742522), Cond.constant RX6 108 (264347078), Cond.constant RX6 109 (604807628), Cond.constant RX6 110 (770255983), Cond.constant RX6 111 (1249150122), Cond.constant RX6 112 (1555081692), Cond.constant RX6 113 (1996064986), Cond.constant RX6 114 (-1740746414), Cond.constant RX6 115 (-1473132947), Cond.constant RX6 116 (-1341970488), Cond.constant RX6 117 (-1084653625), Cond.constant RX6 118 (-958395405), Cond.constant RX6 119 (-710438585), Cond.constant RX6 120 (113926993), Cond.constant RX6 121 (338241895), Cond.constant RX6 122 (666307205), Cond.constant RX6 123 (773529912), Cond.constant RX6 124 (1294757372)]
def wsX6_init_r4 : List Cond := [Cond.constant RX6 125 (1396182291), Cond.constant RX6 126 (1695183700), Cond.constant RX6 127 (1986661051), Cond.constant RX6 128 (-2117940946), Cond.constant RX6 129 (-1838011259), Cond.constant RX6 130 (-1564481375), Cond.constant RX6 131 (-1474664885), Cond.constant RX6 132 (-1035236496), Cond.constant RX6 133 (-949202525), Cond.constant RX6 134 (-778901479), Cond.constant RX6 135 (-694614492), Cond.constant RX6 136 (-200395387), Cond.constant RX6 137 (275423344), Cond.constant RX6 138 (430227734), Cond.constant RX6 139 (506948616), Cond.constant RX6 140 (659060556), Cond.constant RX6 141 (883997877), Cond.constant RX6 142 (958139571), Cond.constant RX6 143 (1322822218), Cond.constant RX6 144 (1537002063), Cond.constant RX6 145 (1747873779), Cond.constant RX6 146 (1955562222), Cond.constant RX6 147 (2024104815), Cond.constant RX6 148 (-2067236844)]
def wsX6_init_r5 : List Cond := [Cond.constant RX6 149 (-1933114872), Cond.constant RX6 150 (-1866530822), Cond.constant RX6 151 (-1538233109), Cond.constant RX6 152 (-1090935817), Cond.constant RX6 153 (-965641998), Cond.fieldLink RX6 154 "FixityRowsModel" "adds" "[I", Cond.fieldLink RX6 157 "FixityRowsModel" "capacity" "I"]
def wsX6_init : List Cond := .code yX6_init cX6_init 3 none :: ((wsX6_init_r1 ++ (wsX6_init_r2 ++ (wsX6_init_r3 ++ (wsX6_init_r4 ++ wsX6_init_r5)))) ++ wsX60)
def wsX6_thrown : List Cond := .code yX6_thrown cX6_thrown 1 (some .int) :: ([.fieldLink RX6 160 "FixityRowsModel" "thrown" "I"] ++ wsX60)
def wsX6_in : List Cond := .code yX6_in cX6_in 3 (some .boolean) :: ([])
def wsX6_isFile : List Cond := .code yX6_isFile cX6_isFile 2 (some .boolean) :: ([.fieldLink RX6 163 "FixityRowsModel" "files" "I", .methodLink RX6 166 yX6_in, .static yX6_in, .initialized RX6, .code yX6_in cX6_in 3 (some .boolean)] ++ wsX60)
def wsX6_isDay : List Cond := .code yX6_isDay cX6_isDay 1 (some .boolean) :: ([.constant RX6 170 (1000000), .methodLink RX6 166 yX6_in, .static yX6_in, .initialized RX6, .code yX6_in cX6_in 3 (some .boolean)])
def wsX6_turned : List Cond := .code yX6_turned cX6_turned 2 (some .int) :: ([])
def wsX6_mixed : List Cond := .code yX6_mixed cX6_mixed 4 (some .int) :: ([.methodLink RX6 171 yX6_turned, .static yX6_turned, .initialized RX6, .code yX6_turned cX6_turned 2 (some .int)])
def wsX6_block : List Cond := .code yX6_block cX6_block 6 none :: ([.fieldLink RX6 70 "FixityRowsModel" "w" "[I", .fieldLink RX6 64 "FixityRowsModel" "buffer" "[B", .fieldLink RX6 76 "FixityRowsModel" "v" "[I", .fieldLink RX6 73 "FixityRowsModel" "h" "[I", .fieldLink RX6 154 "FixityRowsModel" "adds" "[I", .methodLink RX6 171 yX6_turned, .static yX6_turned, .initialized RX6, .code yX6_turned cX6_turned 2 (some .int), .methodLink RX6 175 yX6_mixed, .static yX6_mixed, .code yX6_mixed cX6_mixed 4 (some .int)] ++ wsX60)
def wsX6_long1 : List Cond := .code yX6_long1 cX6_long1 4 none :: ([.fieldLink RX6 179 "FixityRowsModel" "filled" "I", .fieldLink RX6 64 "FixityRowsModel" "buffer" "[B", .fieldLink RX6 73 "FixityRowsModel" "h" "[I", .fieldLink RX6 87 "FixityRowsModel" "begins" "[I", .fieldLink RX6 67 "FixityRowsModel" "made" "[B", .methodLink RX6 182 yX6_block, .instanceMethod yX6_block, .selects RX6 yX6_block yX6_block, .initialized RX6, .code yX6_block cX6_block 6 none, .fieldLink RX6 70 "FixityRowsModel" "w" "[I", .fieldLink RX6 76 "FixityRowsModel" "v" "[I", .fieldLink RX6 154 "FixityRowsModel" "adds" "[I", .methodLink RX6 171 yX6_turned, .static yX6_turned, .code yX6_turned cX6_turned 2 (some .int), .methodLink RX6 175 yX6_mixed, .static yX6_mixed, .code yX6_mixed cX6_mixed 4 (some .int)] ++ wsX60)
def wsX6_short1 : List Cond := .code yX6_short1 cX6_short1 4 none :: ([.fieldLink RX6 179 "FixityRowsModel" "filled" "I", .fieldLink RX6 64 "FixityRowsModel" "buffer" "[B", .constant RX6 186 (-306674912), .fieldLink RX6 67 "FixityRowsModel" "made" "[B"] ++ wsX60)
def wsX6_fill : List Cond := .code yX6_fill cX6_fill 3 none :: ([.fieldLink RX6 16 "FixityRowsModel" "size" "[I", .fieldLink RX6 179 "FixityRowsModel" "filled" "I", .fieldLink RX6 64 "FixityRowsModel" "buffer" "[B", .fieldLink RX6 13 "FixityRowsModel" "bytes" "[B"] ++ wsX60)
def wsX6_has_r1 : List Cond := [Cond.fieldLink RX6 20 "FixityRowsModel" "algorithms" "[I", Cond.fieldLink RX6 67 "FixityRowsModel" "made" "[B", Cond.fieldLink RX6 23 "FixityRowsModel" "wanted" "[B", Cond.methodLink RX6 187 yX6_long1, Cond.instanceMethod yX6_long1, Cond.selects RX6 yX6_long1 yX6_long1, Cond.initialized RX6, Cond.code yX6_long1 cX6_long1 4 none, Cond.fieldLink RX6 179 "FixityRowsModel" "filled" "I", Cond.fieldLink RX6 64 "FixityRowsModel" "buffer" "[B", Cond.fieldLink RX6 73 "FixityRowsModel" "h" "[I", Cond.fieldLink RX6 87 "FixityRowsModel" "begins" "[I", Cond.methodLink RX6 182 yX6_block, Cond.instanceMethod yX6_block, Cond.selects RX6 yX6_block yX6_block, Cond.code yX6_block cX6_block 6 none, Cond.fieldLink RX6 70 "FixityRowsModel" "w" "[I", Cond.fieldLink RX6 76 "FixityRowsModel" "v" "[I", Cond.fieldLink RX6 154 "FixityRowsModel" "adds" "[I", Cond.methodLink RX6 171 yX6_turned, Cond.static yX6_turned, Cond.code yX6_turned cX6_turned 2 (some .int), Cond.methodLink RX6 175 yX6_mixed, Cond.static yX6_mixed]
def wsX6_has_r2 : List Cond := [Cond.code yX6_mixed cX6_mixed 4 (some .int), Cond.methodLink RX6 190 yX6_short1, Cond.instanceMethod yX6_short1, Cond.selects RX6 yX6_short1 yX6_short1, Cond.code yX6_short1 cX6_short1 4 none, Cond.constant RX6 186 (-306674912)]
def wsX6_has : List Cond := .code yX6_has cX6_has 4 (some .boolean) :: ((wsX6_has_r1 ++ wsX6_has_r2) ++ wsX60)
def wsX6_fits_r1 : List Cond := [Cond.methodLink RX6 193 yX6_fill, Cond.instanceMethod yX6_fill, Cond.selects RX6 yX6_fill yX6_fill, Cond.initialized RX6, Cond.code yX6_fill cX6_fill 3 none, Cond.fieldLink RX6 16 "FixityRowsModel" "size" "[I", Cond.fieldLink RX6 179 "FixityRowsModel" "filled" "I", Cond.fieldLink RX6 64 "FixityRowsModel" "buffer" "[B", Cond.fieldLink RX6 13 "FixityRowsModel" "bytes" "[B", Cond.methodLink RX6 196 yX6_has, Cond.instanceMethod yX6_has, Cond.selects RX6 yX6_has yX6_has, Cond.code yX6_has cX6_has 4 (some .boolean), Cond.fieldLink RX6 20 "FixityRowsModel" "algorithms" "[I", Cond.fieldLink RX6 67 "FixityRowsModel" "made" "[B", Cond.fieldLink RX6 23 "FixityRowsModel" "wanted" "[B", Cond.methodLink RX6 187 yX6_long1, Cond.instanceMethod yX6_long1, Cond.selects RX6 yX6_long1 yX6_long1, Cond.code yX6_long1 cX6_long1 4 none, Cond.fieldLink RX6 73 "FixityRowsModel" "h" "[I", Cond.fieldLink RX6 87 "FixityRowsModel" "begins" "[I", Cond.methodLink RX6 182 yX6_block, Cond.instanceMethod yX6_block]
def wsX6_fits_r2 : List Cond := [Cond.selects RX6 yX6_block yX6_block, Cond.code yX6_block cX6_block 6 none, Cond.fieldLink RX6 70 "FixityRowsModel" "w" "[I", Cond.fieldLink RX6 76 "FixityRowsModel" "v" "[I", Cond.fieldLink RX6 154 "FixityRowsModel" "adds" "[I", Cond.methodLink RX6 171 yX6_turned, Cond.static yX6_turned, Cond.code yX6_turned cX6_turned 2 (some .int), Cond.methodLink RX6 175 yX6_mixed, Cond.static yX6_mixed, Cond.code yX6_mixed cX6_mixed 4 (some .int), Cond.methodLink RX6 190 yX6_short1, Cond.instanceMethod yX6_short1, Cond.selects RX6 yX6_short1 yX6_short1, Cond.code yX6_short1 cX6_short1 4 none, Cond.constant RX6 186 (-306674912)]
def wsX6_fits : List Cond := .code yX6_fits cX6_fits 2 (some .boolean) :: ((wsX6_fits_r1 ++ wsX6_fits_r2) ++ wsX60)
def wsX6_number : List Cond := .code yX6_number cX6_number 3 none :: ([.fieldLink RX6 64 "FixityRowsModel" "buffer" "[B", .fieldLink RX6 179 "FixityRowsModel" "filled" "I"] ++ wsX60)
def wsX6_chained_r1 : List Cond := [Cond.fieldLink RX6 179 "FixityRowsModel" "filled" "I", Cond.fieldLink RX6 64 "FixityRowsModel" "buffer" "[B", Cond.fieldLink RX6 58 "FixityRowsModel" "rowDigest" "[B", Cond.fieldLink RX6 49 "FixityRowsModel" "rowWhat" "[I", Cond.fieldLink RX6 52 "FixityRowsModel" "rowFile" "[I", Cond.fieldLink RX6 55 "FixityRowsModel" "rowDay" "[I", Cond.methodLink RX6 200 yX6_number, Cond.instanceMethod yX6_number, Cond.selects RX6 yX6_number yX6_number, Cond.initialized RX6, Cond.code yX6_number cX6_number 3 none, Cond.methodLink RX6 187 yX6_long1, Cond.instanceMethod yX6_long1, Cond.selects RX6 yX6_long1 yX6_long1, Cond.code yX6_long1 cX6_long1 4 none, Cond.fieldLink RX6 73 "FixityRowsModel" "h" "[I", Cond.fieldLink RX6 87 "FixityRowsModel" "begins" "[I", Cond.fieldLink RX6 67 "FixityRowsModel" "made" "[B", Cond.methodLink RX6 182 yX6_block, Cond.instanceMethod yX6_block, Cond.selects RX6 yX6_block yX6_block, Cond.code yX6_block cX6_block 6 none, Cond.fieldLink RX6 70 "FixityRowsModel" "w" "[I", Cond.fieldLink RX6 76 "FixityRowsModel" "v" "[I"]
def wsX6_chained_r2 : List Cond := [Cond.fieldLink RX6 154 "FixityRowsModel" "adds" "[I", Cond.methodLink RX6 171 yX6_turned, Cond.static yX6_turned, Cond.code yX6_turned cX6_turned 2 (some .int), Cond.methodLink RX6 175 yX6_mixed, Cond.static yX6_mixed, Cond.code yX6_mixed cX6_mixed 4 (some .int)]
def wsX6_chained : List Cond := .code yX6_chained cX6_chained 3 none :: ((wsX6_chained_r1 ++ wsX6_chained_r2) ++ wsX60)
def wsX6_enter_r1 : List Cond := [Cond.fieldLink RX6 203 "FixityRowsModel" "rows" "I", Cond.fieldLink RX6 49 "FixityRowsModel" "rowWhat" "[I", Cond.fieldLink RX6 52 "FixityRowsModel" "rowFile" "[I", Cond.fieldLink RX6 55 "FixityRowsModel" "rowDay" "[I", Cond.fieldLink RX6 58 "FixityRowsModel" "rowDigest" "[B", Cond.fieldLink RX6 67 "FixityRowsModel" "made" "[B", Cond.methodLink RX6 206 yX6_chained, Cond.instanceMethod yX6_chained, Cond.selects RX6 yX6_chained yX6_chained, Cond.initialized RX6, Cond.code yX6_chained cX6_chained 3 none, Cond.fieldLink RX6 179 "FixityRowsModel" "filled" "I", Cond.fieldLink RX6 64 "FixityRowsModel" "buffer" "[B", Cond.methodLink RX6 200 yX6_number, Cond.instanceMethod yX6_number, Cond.selects RX6 yX6_number yX6_number, Cond.code yX6_number cX6_number 3 none, Cond.methodLink RX6 187 yX6_long1, Cond.instanceMethod yX6_long1, Cond.selects RX6 yX6_long1 yX6_long1, Cond.code yX6_long1 cX6_long1 4 none, Cond.fieldLink RX6 73 "FixityRowsModel" "h" "[I", Cond.fieldLink RX6 87 "FixityRowsModel" "begins" "[I", Cond.methodLink RX6 182 yX6_block]
def wsX6_enter_r2 : List Cond := [Cond.instanceMethod yX6_block, Cond.selects RX6 yX6_block yX6_block, Cond.code yX6_block cX6_block 6 none, Cond.fieldLink RX6 70 "FixityRowsModel" "w" "[I", Cond.fieldLink RX6 76 "FixityRowsModel" "v" "[I", Cond.fieldLink RX6 154 "FixityRowsModel" "adds" "[I", Cond.methodLink RX6 171 yX6_turned, Cond.static yX6_turned, Cond.code yX6_turned cX6_turned 2 (some .int), Cond.methodLink RX6 175 yX6_mixed, Cond.static yX6_mixed, Cond.code yX6_mixed cX6_mixed 4 (some .int)]
def wsX6_enter : List Cond := .code yX6_enter cX6_enter 5 none :: ((wsX6_enter_r1 ++ wsX6_enter_r2) ++ wsX60)
def wsX6_octet : List Cond := .code yX6_octet cX6_octet 2 none :: ([.fieldLink RX6 160 "FixityRowsModel" "thrown" "I", .fieldLink RX6 209 "FixityRowsModel" "collected" "I", .fieldLink RX6 7 "FixityRowsModel" "said" "[B"] ++ wsX60)
def wsX6_gather : List Cond := .code yX6_gather cX6_gather 2 none :: ([.fieldLink RX6 209 "FixityRowsModel" "collected" "I", .fieldLink RX6 179 "FixityRowsModel" "filled" "I", .fieldLink RX6 64 "FixityRowsModel" "buffer" "[B", .fieldLink RX6 7 "FixityRowsModel" "said" "[B"] ++ wsX60)
def wsX6_digest_r1 : List Cond := [Cond.fieldLink RX6 160 "FixityRowsModel" "thrown" "I", Cond.fieldLink RX6 215 "FixityRowsModel" "shown" "I", Cond.fieldLink RX6 61 "FixityRowsModel" "show" "[B", Cond.fieldLink RX6 67 "FixityRowsModel" "made" "[B", Cond.methodLink RX6 166 yX6_in, Cond.static yX6_in, Cond.initialized RX6, Cond.code yX6_in cX6_in 3 (some .boolean), Cond.methodLink RX6 212 yX6_gather, Cond.instanceMethod yX6_gather, Cond.selects RX6 yX6_gather yX6_gather, Cond.code yX6_gather cX6_gather 2 none, Cond.fieldLink RX6 209 "FixityRowsModel" "collected" "I", Cond.fieldLink RX6 179 "FixityRowsModel" "filled" "I", Cond.fieldLink RX6 64 "FixityRowsModel" "buffer" "[B", Cond.fieldLink RX6 7 "FixityRowsModel" "said" "[B", Cond.methodLink RX6 187 yX6_long1, Cond.instanceMethod yX6_long1, Cond.selects RX6 yX6_long1 yX6_long1, Cond.code yX6_long1 cX6_long1 4 none, Cond.fieldLink RX6 73 "FixityRowsModel" "h" "[I", Cond.fieldLink RX6 87 "FixityRowsModel" "begins" "[I", Cond.methodLink RX6 182 yX6_block, Cond.instanceMethod yX6_block]
def wsX6_digest_r2 : List Cond := [Cond.selects RX6 yX6_block yX6_block, Cond.code yX6_block cX6_block 6 none, Cond.fieldLink RX6 70 "FixityRowsModel" "w" "[I", Cond.fieldLink RX6 76 "FixityRowsModel" "v" "[I", Cond.fieldLink RX6 154 "FixityRowsModel" "adds" "[I", Cond.methodLink RX6 171 yX6_turned, Cond.static yX6_turned, Cond.code yX6_turned cX6_turned 2 (some .int), Cond.methodLink RX6 175 yX6_mixed, Cond.static yX6_mixed, Cond.code yX6_mixed cX6_mixed 4 (some .int), Cond.methodLink RX6 190 yX6_short1, Cond.instanceMethod yX6_short1, Cond.selects RX6 yX6_short1 yX6_short1, Cond.code yX6_short1 cX6_short1 4 none, Cond.constant RX6 186 (-306674912)]
def wsX6_digest : List Cond := .code yX6_digest cX6_digest 3 (some .int) :: ((wsX6_digest_r1 ++ wsX6_digest_r2) ++ wsX60)
def wsX6_at : List Cond := .code yX6_at cX6_at 2 (some .int) :: ([.fieldLink RX6 215 "FixityRowsModel" "shown" "I", .fieldLink RX6 160 "FixityRowsModel" "thrown" "I", .fieldLink RX6 61 "FixityRowsModel" "show" "[B", .methodLink RX6 166 yX6_in, .static yX6_in, .initialized RX6, .code yX6_in cX6_in 3 (some .boolean)] ++ wsX60)
def wsX6_file_r1 : List Cond := [Cond.fieldLink RX6 160 "FixityRowsModel" "thrown" "I", Cond.fieldLink RX6 163 "FixityRowsModel" "files" "I", Cond.fieldLink RX6 23 "FixityRowsModel" "wanted" "[B", Cond.fieldLink RX6 67 "FixityRowsModel" "made" "[B", Cond.fieldLink RX6 20 "FixityRowsModel" "algorithms" "[I", Cond.fieldLink RX6 16 "FixityRowsModel" "size" "[I", Cond.fieldLink RX6 209 "FixityRowsModel" "collected" "I", Cond.fieldLink RX6 13 "FixityRowsModel" "bytes" "[B", Cond.fieldLink RX6 7 "FixityRowsModel" "said" "[B", Cond.methodLink RX6 166 yX6_in, Cond.static yX6_in, Cond.initialized RX6, Cond.code yX6_in cX6_in 3 (some .boolean), Cond.methodLink RX6 218 yX6_isDay, Cond.static yX6_isDay, Cond.code yX6_isDay cX6_isDay 1 (some .boolean), Cond.constant RX6 170 (1000000), Cond.methodLink RX6 212 yX6_gather, Cond.instanceMethod yX6_gather, Cond.selects RX6 yX6_gather yX6_gather, Cond.code yX6_gather cX6_gather 2 none, Cond.fieldLink RX6 179 "FixityRowsModel" "filled" "I", Cond.fieldLink RX6 64 "FixityRowsModel" "buffer" "[B", Cond.methodLink RX6 187 yX6_long1]
def wsX6_file_r2 : List Cond := [Cond.instanceMethod yX6_long1, Cond.selects RX6 yX6_long1 yX6_long1, Cond.code yX6_long1 cX6_long1 4 none, Cond.fieldLink RX6 73 "FixityRowsModel" "h" "[I", Cond.fieldLink RX6 87 "FixityRowsModel" "begins" "[I", Cond.methodLink RX6 182 yX6_block, Cond.instanceMethod yX6_block, Cond.selects RX6 yX6_block yX6_block, Cond.code yX6_block cX6_block 6 none, Cond.fieldLink RX6 70 "FixityRowsModel" "w" "[I", Cond.fieldLink RX6 76 "FixityRowsModel" "v" "[I", Cond.fieldLink RX6 154 "FixityRowsModel" "adds" "[I", Cond.methodLink RX6 171 yX6_turned, Cond.static yX6_turned, Cond.code yX6_turned cX6_turned 2 (some .int), Cond.methodLink RX6 175 yX6_mixed, Cond.static yX6_mixed, Cond.code yX6_mixed cX6_mixed 4 (some .int), Cond.methodLink RX6 190 yX6_short1, Cond.instanceMethod yX6_short1, Cond.selects RX6 yX6_short1 yX6_short1, Cond.code yX6_short1 cX6_short1 4 none, Cond.constant RX6 186 (-306674912), Cond.methodLink RX6 221 yX6_enter]
def wsX6_file_r3 : List Cond := [Cond.instanceMethod yX6_enter, Cond.selects RX6 yX6_enter yX6_enter, Cond.code yX6_enter cX6_enter 5 none, Cond.fieldLink RX6 203 "FixityRowsModel" "rows" "I", Cond.fieldLink RX6 49 "FixityRowsModel" "rowWhat" "[I", Cond.fieldLink RX6 52 "FixityRowsModel" "rowFile" "[I", Cond.fieldLink RX6 55 "FixityRowsModel" "rowDay" "[I", Cond.fieldLink RX6 58 "FixityRowsModel" "rowDigest" "[B", Cond.methodLink RX6 206 yX6_chained, Cond.instanceMethod yX6_chained, Cond.selects RX6 yX6_chained yX6_chained, Cond.code yX6_chained cX6_chained 3 none, Cond.methodLink RX6 200 yX6_number, Cond.instanceMethod yX6_number, Cond.selects RX6 yX6_number yX6_number, Cond.code yX6_number cX6_number 3 none]
def wsX6_file : List Cond := .code yX6_file cX6_file 5 (some .int) :: ((wsX6_file_r1 ++ (wsX6_file_r2 ++ wsX6_file_r3)) ++ wsX60)
def wsX6_alter : List Cond := .code yX6_alter cX6_alter 5 (some .int) :: ([.fieldLink RX6 160 "FixityRowsModel" "thrown" "I", .fieldLink RX6 16 "FixityRowsModel" "size" "[I", .fieldLink RX6 13 "FixityRowsModel" "bytes" "[B", .methodLink RX6 225 yX6_isFile, .instanceMethod yX6_isFile, .selects RX6 yX6_isFile yX6_isFile, .initialized RX6, .code yX6_isFile cX6_isFile 2 (some .boolean), .fieldLink RX6 163 "FixityRowsModel" "files" "I", .methodLink RX6 166 yX6_in, .static yX6_in, .code yX6_in cX6_in 3 (some .boolean)] ++ wsX60)
def wsX6_cut : List Cond := .code yX6_cut cX6_cut 4 (some .int) :: ([.fieldLink RX6 160 "FixityRowsModel" "thrown" "I", .fieldLink RX6 16 "FixityRowsModel" "size" "[I", .methodLink RX6 225 yX6_isFile, .instanceMethod yX6_isFile, .selects RX6 yX6_isFile yX6_isFile, .initialized RX6, .code yX6_isFile cX6_isFile 2 (some .boolean), .fieldLink RX6 163 "FixityRowsModel" "files" "I", .methodLink RX6 166 yX6_in, .static yX6_in, .code yX6_in cX6_in 3 (some .boolean)] ++ wsX60)
def wsX6_check_r1 : List Cond := [Cond.fieldLink RX6 26 "FixityRowsModel" "fitted" "[I", Cond.methodLink RX6 228 yX6_fits, Cond.instanceMethod yX6_fits, Cond.selects RX6 yX6_fits yX6_fits, Cond.initialized RX6, Cond.code yX6_fits cX6_fits 2 (some .boolean), Cond.methodLink RX6 193 yX6_fill, Cond.instanceMethod yX6_fill, Cond.selects RX6 yX6_fill yX6_fill, Cond.code yX6_fill cX6_fill 3 none, Cond.fieldLink RX6 16 "FixityRowsModel" "size" "[I", Cond.fieldLink RX6 179 "FixityRowsModel" "filled" "I", Cond.fieldLink RX6 64 "FixityRowsModel" "buffer" "[B", Cond.fieldLink RX6 13 "FixityRowsModel" "bytes" "[B", Cond.methodLink RX6 196 yX6_has, Cond.instanceMethod yX6_has, Cond.selects RX6 yX6_has yX6_has, Cond.code yX6_has cX6_has 4 (some .boolean), Cond.fieldLink RX6 20 "FixityRowsModel" "algorithms" "[I", Cond.fieldLink RX6 67 "FixityRowsModel" "made" "[B", Cond.fieldLink RX6 23 "FixityRowsModel" "wanted" "[B", Cond.methodLink RX6 187 yX6_long1, Cond.instanceMethod yX6_long1, Cond.selects RX6 yX6_long1 yX6_long1]
def wsX6_check_r2 : List Cond := [Cond.code yX6_long1 cX6_long1 4 none, Cond.fieldLink RX6 73 "FixityRowsModel" "h" "[I", Cond.fieldLink RX6 87 "FixityRowsModel" "begins" "[I", Cond.methodLink RX6 182 yX6_block, Cond.instanceMethod yX6_block, Cond.selects RX6 yX6_block yX6_block, Cond.code yX6_block cX6_block 6 none, Cond.fieldLink RX6 70 "FixityRowsModel" "w" "[I", Cond.fieldLink RX6 76 "FixityRowsModel" "v" "[I", Cond.fieldLink RX6 154 "FixityRowsModel" "adds" "[I", Cond.methodLink RX6 171 yX6_turned, Cond.static yX6_turned, Cond.code yX6_turned cX6_turned 2 (some .int), Cond.methodLink RX6 175 yX6_mixed, Cond.static yX6_mixed, Cond.code yX6_mixed cX6_mixed 4 (some .int), Cond.methodLink RX6 190 yX6_short1, Cond.instanceMethod yX6_short1, Cond.selects RX6 yX6_short1 yX6_short1, Cond.code yX6_short1 cX6_short1 4 none, Cond.constant RX6 186 (-306674912), Cond.methodLink RX6 221 yX6_enter, Cond.instanceMethod yX6_enter, Cond.selects RX6 yX6_enter yX6_enter]
def wsX6_check_r3 : List Cond := [Cond.code yX6_enter cX6_enter 5 none, Cond.fieldLink RX6 203 "FixityRowsModel" "rows" "I", Cond.fieldLink RX6 49 "FixityRowsModel" "rowWhat" "[I", Cond.fieldLink RX6 52 "FixityRowsModel" "rowFile" "[I", Cond.fieldLink RX6 55 "FixityRowsModel" "rowDay" "[I", Cond.fieldLink RX6 58 "FixityRowsModel" "rowDigest" "[B", Cond.methodLink RX6 206 yX6_chained, Cond.instanceMethod yX6_chained, Cond.selects RX6 yX6_chained yX6_chained, Cond.code yX6_chained cX6_chained 3 none, Cond.methodLink RX6 200 yX6_number, Cond.instanceMethod yX6_number, Cond.selects RX6 yX6_number yX6_number, Cond.code yX6_number cX6_number 3 none]
def wsX6_check : List Cond := .code yX6_check cX6_check 4 (some .boolean) :: ((wsX6_check_r1 ++ (wsX6_check_r2 ++ wsX6_check_r3)) ++ wsX60)
def wsX6_read_r1 : List Cond := [Cond.fieldLink RX6 160 "FixityRowsModel" "thrown" "I", Cond.methodLink RX6 225 yX6_isFile, Cond.instanceMethod yX6_isFile, Cond.selects RX6 yX6_isFile yX6_isFile, Cond.initialized RX6, Cond.code yX6_isFile cX6_isFile 2 (some .boolean), Cond.fieldLink RX6 163 "FixityRowsModel" "files" "I", Cond.methodLink RX6 166 yX6_in, Cond.static yX6_in, Cond.code yX6_in cX6_in 3 (some .boolean), Cond.methodLink RX6 218 yX6_isDay, Cond.static yX6_isDay, Cond.code yX6_isDay cX6_isDay 1 (some .boolean), Cond.constant RX6 170 (1000000), Cond.methodLink RX6 231 yX6_check, Cond.instanceMethod yX6_check, Cond.selects RX6 yX6_check yX6_check, Cond.code yX6_check cX6_check 4 (some .boolean), Cond.fieldLink RX6 26 "FixityRowsModel" "fitted" "[I", Cond.methodLink RX6 228 yX6_fits, Cond.instanceMethod yX6_fits, Cond.selects RX6 yX6_fits yX6_fits, Cond.code yX6_fits cX6_fits 2 (some .boolean), Cond.methodLink RX6 193 yX6_fill]
def wsX6_read_r2 : List Cond := [Cond.instanceMethod yX6_fill, Cond.selects RX6 yX6_fill yX6_fill, Cond.code yX6_fill cX6_fill 3 none, Cond.fieldLink RX6 16 "FixityRowsModel" "size" "[I", Cond.fieldLink RX6 179 "FixityRowsModel" "filled" "I", Cond.fieldLink RX6 64 "FixityRowsModel" "buffer" "[B", Cond.fieldLink RX6 13 "FixityRowsModel" "bytes" "[B", Cond.methodLink RX6 196 yX6_has, Cond.instanceMethod yX6_has, Cond.selects RX6 yX6_has yX6_has, Cond.code yX6_has cX6_has 4 (some .boolean), Cond.fieldLink RX6 20 "FixityRowsModel" "algorithms" "[I", Cond.fieldLink RX6 67 "FixityRowsModel" "made" "[B", Cond.fieldLink RX6 23 "FixityRowsModel" "wanted" "[B", Cond.methodLink RX6 187 yX6_long1, Cond.instanceMethod yX6_long1, Cond.selects RX6 yX6_long1 yX6_long1, Cond.code yX6_long1 cX6_long1 4 none, Cond.fieldLink RX6 73 "FixityRowsModel" "h" "[I", Cond.fieldLink RX6 87 "FixityRowsModel" "begins" "[I", Cond.methodLink RX6 182 yX6_block, Cond.instanceMethod yX6_block, Cond.selects RX6 yX6_block yX6_block, Cond.code yX6_block cX6_block 6 none]
def wsX6_read_r3 : List Cond := [Cond.fieldLink RX6 70 "FixityRowsModel" "w" "[I", Cond.fieldLink RX6 76 "FixityRowsModel" "v" "[I", Cond.fieldLink RX6 154 "FixityRowsModel" "adds" "[I", Cond.methodLink RX6 171 yX6_turned, Cond.static yX6_turned, Cond.code yX6_turned cX6_turned 2 (some .int), Cond.methodLink RX6 175 yX6_mixed, Cond.static yX6_mixed, Cond.code yX6_mixed cX6_mixed 4 (some .int), Cond.methodLink RX6 190 yX6_short1, Cond.instanceMethod yX6_short1, Cond.selects RX6 yX6_short1 yX6_short1, Cond.code yX6_short1 cX6_short1 4 none, Cond.constant RX6 186 (-306674912), Cond.methodLink RX6 221 yX6_enter, Cond.instanceMethod yX6_enter, Cond.selects RX6 yX6_enter yX6_enter, Cond.code yX6_enter cX6_enter 5 none, Cond.fieldLink RX6 203 "FixityRowsModel" "rows" "I", Cond.fieldLink RX6 49 "FixityRowsModel" "rowWhat" "[I", Cond.fieldLink RX6 52 "FixityRowsModel" "rowFile" "[I", Cond.fieldLink RX6 55 "FixityRowsModel" "rowDay" "[I", Cond.fieldLink RX6 58 "FixityRowsModel" "rowDigest" "[B", Cond.methodLink RX6 206 yX6_chained]
def wsX6_read_r4 : List Cond := [Cond.instanceMethod yX6_chained, Cond.selects RX6 yX6_chained yX6_chained, Cond.code yX6_chained cX6_chained 3 none, Cond.methodLink RX6 200 yX6_number, Cond.instanceMethod yX6_number, Cond.selects RX6 yX6_number yX6_number, Cond.code yX6_number cX6_number 3 none]
def wsX6_read : List Cond := .code yX6_read cX6_read 3 (some .int) :: ((wsX6_read_r1 ++ (wsX6_read_r2 ++ (wsX6_read_r3 ++ wsX6_read_r4))) ++ wsX60)
def wsX6_schedule : List Cond := .code yX6_schedule cX6_schedule 4 (some .int) :: ([.fieldLink RX6 160 "FixityRowsModel" "thrown" "I", .fieldLink RX6 32 "FixityRowsModel" "due" "[I", .fieldLink RX6 35 "FixityRowsModel" "span" "[I", .methodLink RX6 225 yX6_isFile, .instanceMethod yX6_isFile, .selects RX6 yX6_isFile yX6_isFile, .initialized RX6, .code yX6_isFile cX6_isFile 2 (some .boolean), .fieldLink RX6 163 "FixityRowsModel" "files" "I", .methodLink RX6 166 yX6_in, .static yX6_in, .code yX6_in cX6_in 3 (some .boolean), .methodLink RX6 218 yX6_isDay, .static yX6_isDay, .code yX6_isDay cX6_isDay 1 (some .boolean), .constant RX6 170 (1000000)] ++ wsX60)
def wsX6_isDue : List Cond := .code yX6_isDue cX6_isDue 3 (some .boolean) :: ([.fieldLink RX6 32 "FixityRowsModel" "due" "[I"] ++ wsX60)
def wsX6_first : List Cond := .code yX6_first cX6_first 4 (some .int) :: ([.fieldLink RX6 163 "FixityRowsModel" "files" "I", .fieldLink RX6 32 "FixityRowsModel" "due" "[I", .methodLink RX6 235 yX6_isDue, .instanceMethod yX6_isDue, .selects RX6 yX6_isDue yX6_isDue, .initialized RX6, .code yX6_isDue cX6_isDue 3 (some .boolean)] ++ wsX60)
def wsX6_due_r1 : List Cond := [Cond.fieldLink RX6 160 "FixityRowsModel" "thrown" "I", Cond.fieldLink RX6 38 "FixityRowsModel" "worked" "I", Cond.fieldLink RX6 238 "FixityRowsModel" "told" "I", Cond.fieldLink RX6 157 "FixityRowsModel" "capacity" "I", Cond.fieldLink RX6 42 "FixityRowsModel" "toldFile" "[I", Cond.fieldLink RX6 45 "FixityRowsModel" "toldFits" "[Z", Cond.fieldLink RX6 32 "FixityRowsModel" "due" "[I", Cond.fieldLink RX6 35 "FixityRowsModel" "span" "[I", Cond.fieldLink RX6 163 "FixityRowsModel" "files" "I", Cond.methodLink RX6 218 yX6_isDay, Cond.static yX6_isDay, Cond.initialized RX6, Cond.code yX6_isDay cX6_isDay 1 (some .boolean), Cond.constant RX6 170 (1000000), Cond.methodLink RX6 166 yX6_in, Cond.static yX6_in, Cond.code yX6_in cX6_in 3 (some .boolean), Cond.methodLink RX6 241 yX6_first, Cond.instanceMethod yX6_first, Cond.selects RX6 yX6_first yX6_first, Cond.code yX6_first cX6_first 4 (some .int), Cond.methodLink RX6 235 yX6_isDue, Cond.instanceMethod yX6_isDue, Cond.selects RX6 yX6_isDue yX6_isDue]
def wsX6_due_r2 : List Cond := [Cond.code yX6_isDue cX6_isDue 3 (some .boolean), Cond.methodLink RX6 231 yX6_check, Cond.instanceMethod yX6_check, Cond.selects RX6 yX6_check yX6_check, Cond.code yX6_check cX6_check 4 (some .boolean), Cond.fieldLink RX6 26 "FixityRowsModel" "fitted" "[I", Cond.methodLink RX6 228 yX6_fits, Cond.instanceMethod yX6_fits, Cond.selects RX6 yX6_fits yX6_fits, Cond.code yX6_fits cX6_fits 2 (some .boolean), Cond.methodLink RX6 193 yX6_fill, Cond.instanceMethod yX6_fill, Cond.selects RX6 yX6_fill yX6_fill, Cond.code yX6_fill cX6_fill 3 none, Cond.fieldLink RX6 16 "FixityRowsModel" "size" "[I", Cond.fieldLink RX6 179 "FixityRowsModel" "filled" "I", Cond.fieldLink RX6 64 "FixityRowsModel" "buffer" "[B", Cond.fieldLink RX6 13 "FixityRowsModel" "bytes" "[B", Cond.methodLink RX6 196 yX6_has, Cond.instanceMethod yX6_has, Cond.selects RX6 yX6_has yX6_has, Cond.code yX6_has cX6_has 4 (some .boolean), Cond.fieldLink RX6 20 "FixityRowsModel" "algorithms" "[I", Cond.fieldLink RX6 67 "FixityRowsModel" "made" "[B"]
def wsX6_due_r3 : List Cond := [Cond.fieldLink RX6 23 "FixityRowsModel" "wanted" "[B", Cond.methodLink RX6 187 yX6_long1, Cond.instanceMethod yX6_long1, Cond.selects RX6 yX6_long1 yX6_long1, Cond.code yX6_long1 cX6_long1 4 none, Cond.fieldLink RX6 73 "FixityRowsModel" "h" "[I", Cond.fieldLink RX6 87 "FixityRowsModel" "begins" "[I", Cond.methodLink RX6 182 yX6_block, Cond.instanceMethod yX6_block, Cond.selects RX6 yX6_block yX6_block, Cond.code yX6_block cX6_block 6 none, Cond.fieldLink RX6 70 "FixityRowsModel" "w" "[I", Cond.fieldLink RX6 76 "FixityRowsModel" "v" "[I", Cond.fieldLink RX6 154 "FixityRowsModel" "adds" "[I", Cond.methodLink RX6 171 yX6_turned, Cond.static yX6_turned, Cond.code yX6_turned cX6_turned 2 (some .int), Cond.methodLink RX6 175 yX6_mixed, Cond.static yX6_mixed, Cond.code yX6_mixed cX6_mixed 4 (some .int), Cond.methodLink RX6 190 yX6_short1, Cond.instanceMethod yX6_short1, Cond.selects RX6 yX6_short1 yX6_short1, Cond.code yX6_short1 cX6_short1 4 none]
def wsX6_due_r4 : List Cond := [Cond.constant RX6 186 (-306674912), Cond.methodLink RX6 221 yX6_enter, Cond.instanceMethod yX6_enter, Cond.selects RX6 yX6_enter yX6_enter, Cond.code yX6_enter cX6_enter 5 none, Cond.fieldLink RX6 203 "FixityRowsModel" "rows" "I", Cond.fieldLink RX6 49 "FixityRowsModel" "rowWhat" "[I", Cond.fieldLink RX6 52 "FixityRowsModel" "rowFile" "[I", Cond.fieldLink RX6 55 "FixityRowsModel" "rowDay" "[I", Cond.fieldLink RX6 58 "FixityRowsModel" "rowDigest" "[B", Cond.methodLink RX6 206 yX6_chained, Cond.instanceMethod yX6_chained, Cond.selects RX6 yX6_chained yX6_chained, Cond.code yX6_chained cX6_chained 3 none, Cond.methodLink RX6 200 yX6_number, Cond.instanceMethod yX6_number, Cond.selects RX6 yX6_number yX6_number, Cond.code yX6_number cX6_number 3 none]
def wsX6_due : List Cond := .code yX6_due cX6_due 4 (some .int) :: ((wsX6_due_r1 ++ (wsX6_due_r2 ++ (wsX6_due_r3 ++ wsX6_due_r4))) ++ wsX60)
def wsX6_told : List Cond := .code yX6_told cX6_told 3 (some .int) :: ([.fieldLink RX6 160 "FixityRowsModel" "thrown" "I", .fieldLink RX6 238 "FixityRowsModel" "told" "I", .fieldLink RX6 42 "FixityRowsModel" "toldFile" "[I", .fieldLink RX6 45 "FixityRowsModel" "toldFits" "[Z", .methodLink RX6 166 yX6_in, .static yX6_in, .initialized RX6, .code yX6_in cX6_in 3 (some .boolean)] ++ wsX60)
def wsX6_mend_r1 : List Cond := [Cond.fieldLink RX6 160 "FixityRowsModel" "thrown" "I", Cond.fieldLink RX6 163 "FixityRowsModel" "files" "I", Cond.fieldLink RX6 16 "FixityRowsModel" "size" "[I", Cond.fieldLink RX6 13 "FixityRowsModel" "bytes" "[B", Cond.fieldLink RX6 29 "FixityRowsModel" "mended" "[I", Cond.methodLink RX6 225 yX6_isFile, Cond.instanceMethod yX6_isFile, Cond.selects RX6 yX6_isFile yX6_isFile, Cond.initialized RX6, Cond.code yX6_isFile cX6_isFile 2 (some .boolean), Cond.methodLink RX6 166 yX6_in, Cond.static yX6_in, Cond.code yX6_in cX6_in 3 (some .boolean), Cond.methodLink RX6 218 yX6_isDay, Cond.static yX6_isDay, Cond.code yX6_isDay cX6_isDay 1 (some .boolean), Cond.constant RX6 170 (1000000), Cond.methodLink RX6 228 yX6_fits, Cond.instanceMethod yX6_fits, Cond.selects RX6 yX6_fits yX6_fits, Cond.code yX6_fits cX6_fits 2 (some .boolean), Cond.methodLink RX6 193 yX6_fill, Cond.instanceMethod yX6_fill, Cond.selects RX6 yX6_fill yX6_fill]
def wsX6_mend_r2 : List Cond := [Cond.code yX6_fill cX6_fill 3 none, Cond.fieldLink RX6 179 "FixityRowsModel" "filled" "I", Cond.fieldLink RX6 64 "FixityRowsModel" "buffer" "[B", Cond.methodLink RX6 196 yX6_has, Cond.instanceMethod yX6_has, Cond.selects RX6 yX6_has yX6_has, Cond.code yX6_has cX6_has 4 (some .boolean), Cond.fieldLink RX6 20 "FixityRowsModel" "algorithms" "[I", Cond.fieldLink RX6 67 "FixityRowsModel" "made" "[B", Cond.fieldLink RX6 23 "FixityRowsModel" "wanted" "[B", Cond.methodLink RX6 187 yX6_long1, Cond.instanceMethod yX6_long1, Cond.selects RX6 yX6_long1 yX6_long1, Cond.code yX6_long1 cX6_long1 4 none, Cond.fieldLink RX6 73 "FixityRowsModel" "h" "[I", Cond.fieldLink RX6 87 "FixityRowsModel" "begins" "[I", Cond.methodLink RX6 182 yX6_block, Cond.instanceMethod yX6_block, Cond.selects RX6 yX6_block yX6_block, Cond.code yX6_block cX6_block 6 none, Cond.fieldLink RX6 70 "FixityRowsModel" "w" "[I", Cond.fieldLink RX6 76 "FixityRowsModel" "v" "[I", Cond.fieldLink RX6 154 "FixityRowsModel" "adds" "[I", Cond.methodLink RX6 171 yX6_turned]
def wsX6_mend_r3 : List Cond := [Cond.static yX6_turned, Cond.code yX6_turned cX6_turned 2 (some .int), Cond.methodLink RX6 175 yX6_mixed, Cond.static yX6_mixed, Cond.code yX6_mixed cX6_mixed 4 (some .int), Cond.methodLink RX6 190 yX6_short1, Cond.instanceMethod yX6_short1, Cond.selects RX6 yX6_short1 yX6_short1, Cond.code yX6_short1 cX6_short1 4 none, Cond.constant RX6 186 (-306674912), Cond.methodLink RX6 221 yX6_enter, Cond.instanceMethod yX6_enter, Cond.selects RX6 yX6_enter yX6_enter, Cond.code yX6_enter cX6_enter 5 none, Cond.fieldLink RX6 203 "FixityRowsModel" "rows" "I", Cond.fieldLink RX6 49 "FixityRowsModel" "rowWhat" "[I", Cond.fieldLink RX6 52 "FixityRowsModel" "rowFile" "[I", Cond.fieldLink RX6 55 "FixityRowsModel" "rowDay" "[I", Cond.fieldLink RX6 58 "FixityRowsModel" "rowDigest" "[B", Cond.methodLink RX6 206 yX6_chained, Cond.instanceMethod yX6_chained, Cond.selects RX6 yX6_chained yX6_chained, Cond.code yX6_chained cX6_chained 3 none, Cond.methodLink RX6 200 yX6_number]
def wsX6_mend_r4 : List Cond := [Cond.instanceMethod yX6_number, Cond.selects RX6 yX6_number yX6_number, Cond.code yX6_number cX6_number 3 none]
def wsX6_mend : List Cond := .code yX6_mend cX6_mend 5 (some .int) :: ((wsX6_mend_r1 ++ (wsX6_mend_r2 ++ (wsX6_mend_r3 ++ wsX6_mend_r4))) ++ wsX60)
def wsX6_about : List Cond := .code yX6_about cX6_about 3 (some .int) :: ([.fieldLink RX6 160 "FixityRowsModel" "thrown" "I", .fieldLink RX6 16 "FixityRowsModel" "size" "[I", .fieldLink RX6 26 "FixityRowsModel" "fitted" "[I", .fieldLink RX6 32 "FixityRowsModel" "due" "[I", .fieldLink RX6 29 "FixityRowsModel" "mended" "[I", .methodLink RX6 225 yX6_isFile, .instanceMethod yX6_isFile, .selects RX6 yX6_isFile yX6_isFile, .initialized RX6, .code yX6_isFile cX6_isFile 2 (some .boolean), .fieldLink RX6 163 "FixityRowsModel" "files" "I", .methodLink RX6 166 yX6_in, .static yX6_in, .code yX6_in cX6_in 3 (some .boolean)] ++ wsX60)
def wsX6_row : List Cond := .code yX6_row cX6_row 5 (some .int) :: ([.fieldLink RX6 160 "FixityRowsModel" "thrown" "I", .fieldLink RX6 203 "FixityRowsModel" "rows" "I", .fieldLink RX6 49 "FixityRowsModel" "rowWhat" "[I", .fieldLink RX6 52 "FixityRowsModel" "rowFile" "[I", .fieldLink RX6 55 "FixityRowsModel" "rowDay" "[I", .fieldLink RX6 58 "FixityRowsModel" "rowDigest" "[B", .methodLink RX6 166 yX6_in, .static yX6_in, .initialized RX6, .code yX6_in cX6_in 3 (some .boolean)] ++ wsX60)
def wsX6_spoil : List Cond := .code yX6_spoil cX6_spoil 5 (some .int) :: ([.fieldLink RX6 160 "FixityRowsModel" "thrown" "I", .fieldLink RX6 203 "FixityRowsModel" "rows" "I", .fieldLink RX6 55 "FixityRowsModel" "rowDay" "[I", .fieldLink RX6 49 "FixityRowsModel" "rowWhat" "[I", .fieldLink RX6 52 "FixityRowsModel" "rowFile" "[I", .fieldLink RX6 58 "FixityRowsModel" "rowDigest" "[B", .methodLink RX6 166 yX6_in, .static yX6_in, .initialized RX6, .code yX6_in cX6_in 3 (some .boolean)] ++ wsX60)
def wsX6_chain_r1 : List Cond := [Cond.fieldLink RX6 160 "FixityRowsModel" "thrown" "I", Cond.fieldLink RX6 203 "FixityRowsModel" "rows" "I", Cond.fieldLink RX6 67 "FixityRowsModel" "made" "[B", Cond.fieldLink RX6 58 "FixityRowsModel" "rowDigest" "[B", Cond.methodLink RX6 206 yX6_chained, Cond.instanceMethod yX6_chained, Cond.selects RX6 yX6_chained yX6_chained, Cond.initialized RX6, Cond.code yX6_chained cX6_chained 3 none, Cond.fieldLink RX6 179 "FixityRowsModel" "filled" "I", Cond.fieldLink RX6 64 "FixityRowsModel" "buffer" "[B", Cond.fieldLink RX6 49 "FixityRowsModel" "rowWhat" "[I", Cond.fieldLink RX6 52 "FixityRowsModel" "rowFile" "[I", Cond.fieldLink RX6 55 "FixityRowsModel" "rowDay" "[I", Cond.methodLink RX6 200 yX6_number, Cond.instanceMethod yX6_number, Cond.selects RX6 yX6_number yX6_number, Cond.code yX6_number cX6_number 3 none, Cond.methodLink RX6 187 yX6_long1, Cond.instanceMethod yX6_long1, Cond.selects RX6 yX6_long1 yX6_long1, Cond.code yX6_long1 cX6_long1 4 none, Cond.fieldLink RX6 73 "FixityRowsModel" "h" "[I", Cond.fieldLink RX6 87 "FixityRowsModel" "begins" "[I"]
def wsX6_chain_r2 : List Cond := [Cond.methodLink RX6 182 yX6_block, Cond.instanceMethod yX6_block, Cond.selects RX6 yX6_block yX6_block, Cond.code yX6_block cX6_block 6 none, Cond.fieldLink RX6 70 "FixityRowsModel" "w" "[I", Cond.fieldLink RX6 76 "FixityRowsModel" "v" "[I", Cond.fieldLink RX6 154 "FixityRowsModel" "adds" "[I", Cond.methodLink RX6 171 yX6_turned, Cond.static yX6_turned, Cond.code yX6_turned cX6_turned 2 (some .int), Cond.methodLink RX6 175 yX6_mixed, Cond.static yX6_mixed, Cond.code yX6_mixed cX6_mixed 4 (some .int)]
def wsX6_chain : List Cond := .code yX6_chain cX6_chain 3 (some .int) :: ((wsX6_chain_r1 ++ wsX6_chain_r2) ++ wsX60)
def wsJx00060_init_a7421 : List Cond := .code yJx00060_init_a7421 cJx00060_init_a7421 2 none :: ([])
def wsJ9_max_7cf53 : List Cond := .code yJ9_max_7cf53 cJ9_max_7cf53 2 (some .int) :: ([])
def wsJ9_min_7cf53 : List Cond := .code yJ9_min_7cf53 cJ9_min_7cf53 2 (some .int) :: ([])
def wsL_cell : List Cond := .code yL_cell cL_cell 2 (some .int) :: ([])
def wsL_at : List Cond := .codeWith yL_at cL_at 4 (some .int) [(0, 9, 12, 13)] :: ([.methodLink RL 7 yX5_at, .instanceMethod yX5_at, .selects RX5 yX5_at yX5_at, .initialized RX5, .code yX5_at cX5_at 2 (some .int), .fieldLink RX5 83 "FixityRows" "latestLength" "I", .classLink RX5 89 RJx00060, .instantiable RJx00060 6, .initialized RJx00060, .fieldLink RX5 43 "FixityRows" "latestDigest" "[I"] ++ wsX50 ++ wsJx000600)
def wsL_law_r1 : List Cond := [Cond.classLink RL 8 RX5, Cond.instantiable RX5 13, Cond.initialized RX5, Cond.classLink RL 24 RX6, Cond.instantiable RX6 32, Cond.initialized RX6, Cond.arrayClass .long, Cond.methodLink RL 15 yL_cell, Cond.static yL_cell, Cond.initialized RL, Cond.code yL_cell cL_cell 2 (some .int), Cond.methodLink RL 21 yX5_init, Cond.instanceMethod yX5_init, Cond.code yX5_init cX5_init 3 none, Cond.methodLink RX5 1 objectInit, Cond.instanceMethod objectInit, Cond.code objectInit ⟨#[0xb1]⟩ 1 none, Cond.methodLink RX5 9 Lib.Math.min.name, Cond.static Lib.Math.min.name, Cond.initialized "java/lang/Math", Cond.code Lib.Math.min.name Lib.Math.min.code 2 (some .int), Cond.methodLink RX5 15 Lib.Math.max.name, Cond.static Lib.Math.max.name, Cond.code Lib.Math.max.name Lib.Math.max.code 2 (some .int)]
def wsL_law_r2 : List Cond := [Cond.fieldLink RX5 18 "FixityRows" "capacity" "I", Cond.classLink RX5 22 RX1, Cond.instantiable RX1 2, Cond.initialized RX1, Cond.fieldLink RX5 25 "FixityRows" "longDigest" "LFixityRows$LongDigest;", Cond.classLink RX5 29 RX4, Cond.instantiable RX4 1, Cond.initialized RX4, Cond.fieldLink RX5 32 "FixityRows" "shortDigest" "LFixityRows$ShortDigest;", Cond.classLink RX5 36 RX2, Cond.instantiable RX2 2, Cond.initialized RX2, Cond.fieldLink RX5 39 "FixityRows" "collected" "LFixityRows$Octets;", Cond.arrayClass .int, Cond.fieldLink RX5 43 "FixityRows" "latestDigest" "[I", Cond.classLink RX5 47 RX0, Cond.fieldLink RX5 49 "FixityRows" "files" "[LFixityRows$KeptFile;", Cond.instantiable RX0 8, Cond.initialized RX0, Cond.classLink RX5 54 RX3, Cond.instantiable RX3 7, Cond.initialized RX3, Cond.fieldLink RX5 57 "FixityRows" "rows" "LFixityRows$RowChain;", Cond.fieldLink RX5 61 "FixityRows" "checkedFiles" "[I"]
def wsL_law_r3 : List Cond := [Cond.arrayClass .boolean, Cond.fieldLink RX5 64 "FixityRows" "checkedFits" "[Z", Cond.fieldLink RX5 68 "FixityRows" "workedDay" "I", Cond.instanceMethod yX1_init, Cond.code yX1_init cX1_init 1 none, Cond.methodLink RX1 3 objectInit, Cond.fieldLink RX1 9 "FixityRows$LongDigest" "eight" "[I", Cond.fieldLink RX1 15 "FixityRows$LongDigest" "w" "[I", Cond.methodLink RX5 31 yX4_init, Cond.instanceMethod yX4_init, Cond.code yX4_init cX4_init 2 none, Cond.methodLink RX4 1 objectInit, Cond.fieldLink RX4 9 "FixityRows$ShortDigest" "table" "[I", Cond.methodLink RX4 13 yX4_entry, Cond.static yX4_entry, Cond.code yX4_entry cX4_entry 4 (some .int), Cond.constant RX4 26 (-306674912), Cond.instanceMethod yX2_init, Cond.code yX2_init cX2_init 1 none, Cond.methodLink RX2 3 objectInit, Cond.fieldLink RX2 9 "FixityRows$Octets" "values" "[I", Cond.instanceMethod yX0_init, Cond.code yX0_init cX0_init 1 none, Cond.methodLink RX0 3 objectInit]
def wsL_law_r4 : List Cond := [Cond.classLink RX0 9 RX2, Cond.fieldLink RX0 12 "FixityRows$KeptFile" "octets" "LFixityRows$Octets;", Cond.fieldLink RX0 18 "FixityRows$KeptFile" "longWords" "[I", Cond.fieldLink RX0 22 "FixityRows$KeptFile" "fittedDay" "I", Cond.fieldLink RX0 26 "FixityRows$KeptFile" "nextDay" "I", Cond.instanceMethod yX3_init, Cond.code yX3_init cX3_init 1 none, Cond.methodLink RX3 3 objectInit, Cond.classLink RX3 9 RX1, Cond.fieldLink RX3 12 "FixityRows$RowChain" "longDigest" "LFixityRows$LongDigest;", Cond.classLink RX3 18 RX2, Cond.fieldLink RX3 21 "FixityRows$RowChain" "sealed" "LFixityRows$Octets;", Cond.fieldLink RX3 25 "FixityRows$RowChain" "kinds" "[I", Cond.fieldLink RX3 29 "FixityRows$RowChain" "fileNumbers" "[I", Cond.fieldLink RX3 32 "FixityRows$RowChain" "days" "[I", Cond.classLink RX3 35 "[[I", Cond.fieldLink RX3 37 "FixityRows$RowChain" "digests" "[[I", Cond.methodLink RL 26 yX6_init, Cond.instanceMethod yX6_init, Cond.code yX6_init cX6_init 3 none, Cond.methodLink RX6 1 objectInit, Cond.arrayClass .byte, Cond.fieldLink RX6 7 "FixityRowsModel" "said" "[B", Cond.fieldLink RX6 13 "FixityRowsModel" "bytes" "[B"]
def wsL_law_r5 : List Cond := [Cond.fieldLink RX6 16 "FixityRowsModel" "size" "[I", Cond.fieldLink RX6 20 "FixityRowsModel" "algorithms" "[I", Cond.fieldLink RX6 23 "FixityRowsModel" "wanted" "[B", Cond.fieldLink RX6 26 "FixityRowsModel" "fitted" "[I", Cond.fieldLink RX6 29 "FixityRowsModel" "mended" "[I", Cond.fieldLink RX6 32 "FixityRowsModel" "due" "[I", Cond.fieldLink RX6 35 "FixityRowsModel" "span" "[I", Cond.fieldLink RX6 38 "FixityRowsModel" "worked" "I", Cond.fieldLink RX6 42 "FixityRowsModel" "toldFile" "[I", Cond.fieldLink RX6 45 "FixityRowsModel" "toldFits" "[Z", Cond.fieldLink RX6 49 "FixityRowsModel" "rowWhat" "[I", Cond.fieldLink RX6 52 "FixityRowsModel" "rowFile" "[I", Cond.fieldLink RX6 55 "FixityRowsModel" "rowDay" "[I", Cond.fieldLink RX6 58 "FixityRowsModel" "rowDigest" "[B", Cond.fieldLink RX6 61 "FixityRowsModel" "show" "[B", Cond.fieldLink RX6 64 "FixityRowsModel" "buffer" "[B", Cond.fieldLink RX6 67 "FixityRowsModel" "made" "[B", Cond.fieldLink RX6 70 "FixityRowsModel" "w" "[I", Cond.fieldLink RX6 73 "FixityRowsModel" "h" "[I", Cond.fieldLink RX6 76 "FixityRowsModel" "v" "[I", Cond.constant RX6 79 (1779033703), Cond.constant RX6 80 (-1150833019), Cond.constant RX6 81 (1013904242), Cond.constant RX6 82 (-1521486534)]
def wsL_law_r6 : List Cond := [Cond.constant RX6 83 (1359893119), Cond.constant RX6 84 (-1694144372), Cond.constant RX6 85 (528734635), Cond.constant RX6 86 (1541459225), Cond.fieldLink RX6 87 "FixityRowsModel" "begins" "[I", Cond.constant RX6 90 (1116352408), Cond.constant RX6 91 (1899447441), Cond.constant RX6 92 (-1245643825), Cond.constant RX6 93 (-373957723), Cond.constant RX6 94 (961987163), Cond.constant RX6 95 (1508970993), Cond.constant RX6 96 (-1841331548), Cond.constant RX6 97 (-1424204075), Cond.constant RX6 98 (-670586216), Cond.constant RX6 99 (310598401), Cond.constant RX6 100 (607225278), Cond.constant RX6 101 (1426881987), Cond.constant RX6 102 (1925078388), Cond.constant RX6 103 (-2132889090), Cond.constant RX6 104 (-1680079193), Cond.constant RX6 105 (-1046744716), Cond.constant RX6 106 (-459576895), Cond.constant RX6 107 (-272742522), Cond.constant RX6 108 (264347078)]
def wsL_law_r7 : List Cond := [Cond.constant RX6 109 (604807628), Cond.constant RX6 110 (770255983), Cond.constant RX6 111 (1249150122), Cond.constant RX6 112 (1555081692), Cond.constant RX6 113 (1996064986), Cond.constant RX6 114 (-1740746414), Cond.constant RX6 115 (-1473132947), Cond.constant RX6 116 (-1341970488), Cond.constant RX6 117 (-1084653625), Cond.constant RX6 118 (-958395405), Cond.constant RX6 119 (-710438585), Cond.constant RX6 120 (113926993), Cond.constant RX6 121 (338241895), Cond.constant RX6 122 (666307205), Cond.constant RX6 123 (773529912), Cond.constant RX6 124 (1294757372), Cond.constant RX6 125 (1396182291), Cond.constant RX6 126 (1695183700), Cond.constant RX6 127 (1986661051), Cond.constant RX6 128 (-2117940946), Cond.constant RX6 129 (-1838011259), Cond.constant RX6 130 (-1564481375), Cond.constant RX6 131 (-1474664885), Cond.constant RX6 132 (-1035236496)]
def wsL_law_r8 : List Cond := [Cond.constant RX6 133 (-949202525), Cond.constant RX6 134 (-778901479), Cond.constant RX6 135 (-694614492), Cond.constant RX6 136 (-200395387), Cond.constant RX6 137 (275423344), Cond.constant RX6 138 (430227734), Cond.constant RX6 139 (506948616), Cond.constant RX6 140 (659060556), Cond.constant RX6 141 (883997877), Cond.constant RX6 142 (958139571), Cond.constant RX6 143 (1322822218), Cond.constant RX6 144 (1537002063), Cond.constant RX6 145 (1747873779), Cond.constant RX6 146 (1955562222), Cond.constant RX6 147 (2024104815), Cond.constant RX6 148 (-2067236844), Cond.constant RX6 149 (-1933114872), Cond.constant RX6 150 (-1866530822), Cond.constant RX6 151 (-1538233109), Cond.constant RX6 152 (-1090935817), Cond.constant RX6 153 (-965641998), Cond.fieldLink RX6 154 "FixityRowsModel" "adds" "[I", Cond.fieldLink RX6 157 "FixityRowsModel" "capacity" "I", Cond.methodLink RL 27 yX5_octet]
def wsL_law_r9 : List Cond := [Cond.instanceMethod yX5_octet, Cond.selects RX5 yX5_octet yX5_octet, Cond.code yX5_octet cX5_octet 2 none, Cond.methodLink RX5 71 yX2_push, Cond.instanceMethod yX2_push, Cond.selects RX2 yX2_push yX2_push, Cond.code yX2_push cX2_push 2 none, Cond.fieldLink RX2 15 "FixityRows$Octets" "size" "I", Cond.methodLink RL 30 yX6_octet, Cond.instanceMethod yX6_octet, Cond.selects RX6 yX6_octet yX6_octet, Cond.code yX6_octet cX6_octet 2 none, Cond.fieldLink RX6 160 "FixityRowsModel" "thrown" "I", Cond.fieldLink RX6 209 "FixityRowsModel" "collected" "I", Cond.methodLink RL 31 yX5_digest, Cond.instanceMethod yX5_digest, Cond.selects RX5 yX5_digest yX5_digest, Cond.code yX5_digest cX5_digest 2 (some .int), Cond.fieldLink RX5 83 "FixityRows" "latestLength" "I", Cond.methodLink RX5 75 yX1_compute, Cond.instanceMethod yX1_compute, Cond.selects RX1 yX1_compute yX1_compute, Cond.code yX1_compute cX1_compute 6 none, Cond.fieldLink RX1 18 "FixityRows$LongDigest" "ROOTS" "[I"]
def wsL_law_r10 : List Cond := [Cond.methodLink RX1 21 yX2_count, Cond.instanceMethod yX2_count, Cond.selects RX2 yX2_count yX2_count, Cond.code yX2_count cX2_count 1 (some .int), Cond.methodLink RX1 27 yX1_paddedWord, Cond.static yX1_paddedWord, Cond.code yX1_paddedWord cX1_paddedWord 6 (some .int), Cond.methodLink RX1 37 yX2_value, Cond.instanceMethod yX2_value, Cond.selects RX2 yX2_value yX2_value, Cond.code yX2_value cX2_value 2 (some .int), Cond.methodLink RX1 31 yX1_widen, Cond.instanceMethod yX1_widen, Cond.selects RX1 yX1_widen yX1_widen, Cond.code yX1_widen cX1_widen 2 none, Cond.methodLink RX1 41 yX1_smallSigma0, Cond.static yX1_smallSigma0, Cond.code yX1_smallSigma0 cX1_smallSigma0 1 (some .int), Cond.methodLink RX1 44 yX1_smallSigma1, Cond.static yX1_smallSigma1, Cond.code yX1_smallSigma1 cX1_smallSigma1 1 (some .int), Cond.methodLink RX1 34 yX1_mix, Cond.instanceMethod yX1_mix, Cond.selects RX1 yX1_mix yX1_mix]
def wsL_law_r11 : List Cond := [Cond.code yX1_mix cX1_mix 12 none, Cond.fieldLink RX1 50 "FixityRows$LongDigest" "K" "[I", Cond.methodLink RX1 47 yX1_bigSigma1, Cond.static yX1_bigSigma1, Cond.code yX1_bigSigma1 cX1_bigSigma1 1 (some .int), Cond.methodLink RX1 53 yX1_bigSigma0, Cond.static yX1_bigSigma0, Cond.code yX1_bigSigma0 cX1_bigSigma0 1 (some .int), Cond.methodLink RX5 79 yX1_copyTo, Cond.instanceMethod yX1_copyTo, Cond.selects RX1 yX1_copyTo yX1_copyTo, Cond.code yX1_copyTo cX1_copyTo 3 none, Cond.methodLink RX5 86 yX4_compute, Cond.instanceMethod yX4_compute, Cond.selects RX4 yX4_compute yX4_compute, Cond.code yX4_compute cX4_compute 4 (some .int), Cond.methodLink RX4 17 yX2_count, Cond.methodLink RX4 23 yX2_value, Cond.methodLink RL 34 yX6_digest, Cond.instanceMethod yX6_digest, Cond.selects RX6 yX6_digest yX6_digest, Cond.code yX6_digest cX6_digest 3 (some .int), Cond.fieldLink RX6 215 "FixityRowsModel" "shown" "I", Cond.methodLink RX6 166 yX6_in]
def wsL_law_r12 : List Cond := [Cond.static yX6_in, Cond.code yX6_in cX6_in 3 (some .boolean), Cond.methodLink RX6 212 yX6_gather, Cond.instanceMethod yX6_gather, Cond.selects RX6 yX6_gather yX6_gather, Cond.code yX6_gather cX6_gather 2 none, Cond.fieldLink RX6 179 "FixityRowsModel" "filled" "I", Cond.methodLink RX6 187 yX6_long1, Cond.instanceMethod yX6_long1, Cond.selects RX6 yX6_long1 yX6_long1, Cond.code yX6_long1 cX6_long1 4 none, Cond.methodLink RX6 182 yX6_block, Cond.instanceMethod yX6_block, Cond.selects RX6 yX6_block yX6_block, Cond.code yX6_block cX6_block 6 none, Cond.methodLink RX6 171 yX6_turned, Cond.static yX6_turned, Cond.code yX6_turned cX6_turned 2 (some .int), Cond.methodLink RX6 175 yX6_mixed, Cond.static yX6_mixed, Cond.code yX6_mixed cX6_mixed 4 (some .int), Cond.methodLink RX6 190 yX6_short1, Cond.instanceMethod yX6_short1, Cond.selects RX6 yX6_short1 yX6_short1]
def wsL_law_r13 : List Cond := [Cond.code yX6_short1 cX6_short1 4 none, Cond.constant RX6 186 (-306674912), Cond.methodLink RL 35 yL_at, Cond.static yL_at, Cond.codeWith yL_at cL_at 4 (some .int) [(0, 9, 12, 13)], Cond.methodLink RL 7 yX5_at, Cond.instanceMethod yX5_at, Cond.selects RX5 yX5_at yX5_at, Cond.code yX5_at cX5_at 2 (some .int), Cond.classLink RX5 89 RJx00060, Cond.instantiable RJx00060 6, Cond.initialized RJx00060, Cond.methodLink RL 38 yX6_at, Cond.instanceMethod yX6_at, Cond.selects RX6 yX6_at yX6_at, Cond.code yX6_at cX6_at 2 (some .int), Cond.methodLink RL 39 yX6_thrown, Cond.instanceMethod yX6_thrown, Cond.selects RX6 yX6_thrown yX6_thrown, Cond.code yX6_thrown cX6_thrown 1 (some .int), Cond.methodLink RL 43 yX5_file, Cond.instanceMethod yX5_file, Cond.selects RX5 yX5_file yX5_file, Cond.code yX5_file cX5_file 5 (some .int)]
def wsL_law_r14 : List Cond := [Cond.fieldLink RX5 100 "FixityRows" "fileCount" "I", Cond.methodLink RX5 96 yX5_isDay, Cond.static yX5_isDay, Cond.code yX5_isDay cX5_isDay 1 (some .boolean), Cond.constant RX5 201 (1000000), Cond.methodLink RX5 106 yX2_copyFrom, Cond.instanceMethod yX2_copyFrom, Cond.selects RX2 yX2_copyFrom yX2_copyFrom, Cond.code yX2_copyFrom cX2_copyFrom 3 none, Cond.methodLink RX5 118 yX2_shorten, Cond.instanceMethod yX2_shorten, Cond.selects RX2 yX2_shorten yX2_shorten, Cond.code yX2_shorten cX2_shorten 2 none, Cond.methodLink RX5 121 yX3_append, Cond.instanceMethod yX3_append, Cond.selects RX3 yX3_append yX3_append, Cond.code yX3_append cX3_append 5 none, Cond.fieldLink RX3 40 "FixityRows$RowChain" "count" "I", Cond.methodLink RX3 48 yX3_computeDigestOf, Cond.instanceMethod yX3_computeDigestOf, Cond.selects RX3 yX3_computeDigestOf yX3_computeDigestOf, Cond.code yX3_computeDigestOf cX3_computeDigestOf 3 none, Cond.methodLink RX3 60 yX2_shorten, Cond.methodLink RX3 44 yX3_has]
def wsL_law_r15 : List Cond := [Cond.instanceMethod yX3_has, Cond.selects RX3 yX3_has yX3_has, Cond.code yX3_has cX3_has 2 (some .boolean), Cond.methodLink RX3 63 yX2_pushWord, Cond.instanceMethod yX2_pushWord, Cond.selects RX2 yX2_pushWord yX2_pushWord, Cond.code yX2_pushWord cX2_pushWord 3 none, Cond.methodLink RX2 19 yX2_push, Cond.methodLink RX3 66 yX3_kindOf, Cond.instanceMethod yX3_kindOf, Cond.selects RX3 yX3_kindOf yX3_kindOf, Cond.code yX3_kindOf cX3_kindOf 2 (some .int), Cond.methodLink RX3 70 yX3_fileOf, Cond.instanceMethod yX3_fileOf, Cond.selects RX3 yX3_fileOf yX3_fileOf, Cond.code yX3_fileOf cX3_fileOf 2 (some .int), Cond.methodLink RX3 73 yX3_dayOf, Cond.instanceMethod yX3_dayOf, Cond.selects RX3 yX3_dayOf yX3_dayOf, Cond.code yX3_dayOf cX3_dayOf 2 (some .int), Cond.methodLink RX3 76 yX1_compute, Cond.methodLink RX3 52 yX1_copyTo, Cond.methodLink RL 47 yX6_file, Cond.instanceMethod yX6_file]
def wsL_law_r16 : List Cond := [Cond.selects RX6 yX6_file yX6_file, Cond.code yX6_file cX6_file 5 (some .int), Cond.fieldLink RX6 163 "FixityRowsModel" "files" "I", Cond.methodLink RX6 218 yX6_isDay, Cond.static yX6_isDay, Cond.code yX6_isDay cX6_isDay 1 (some .boolean), Cond.constant RX6 170 (1000000), Cond.methodLink RX6 221 yX6_enter, Cond.instanceMethod yX6_enter, Cond.selects RX6 yX6_enter yX6_enter, Cond.code yX6_enter cX6_enter 5 none, Cond.fieldLink RX6 203 "FixityRowsModel" "rows" "I", Cond.methodLink RX6 206 yX6_chained, Cond.instanceMethod yX6_chained, Cond.selects RX6 yX6_chained yX6_chained, Cond.code yX6_chained cX6_chained 3 none, Cond.methodLink RX6 200 yX6_number, Cond.instanceMethod yX6_number, Cond.selects RX6 yX6_number yX6_number, Cond.code yX6_number cX6_number 3 none, Cond.methodLink RL 48 yX5_alter, Cond.instanceMethod yX5_alter, Cond.selects RX5 yX5_alter yX5_alter, Cond.code yX5_alter cX5_alter 6 (some .int)]
def wsL_law_r17 : List Cond := [Cond.methodLink RX5 125 yX5_isFile, Cond.instanceMethod yX5_isFile, Cond.selects RX5 yX5_isFile yX5_isFile, Cond.code yX5_isFile cX5_isFile 2 (some .boolean), Cond.methodLink RX5 128 yX2_has, Cond.instanceMethod yX2_has, Cond.selects RX2 yX2_has yX2_has, Cond.code yX2_has cX2_has 2 (some .boolean), Cond.methodLink RX5 131 yX2_value, Cond.methodLink RX5 135 yX2_replace, Cond.instanceMethod yX2_replace, Cond.selects RX2 yX2_replace yX2_replace, Cond.code yX2_replace cX2_replace 3 none, Cond.methodLink RX2 23 yX2_has, Cond.methodLink RL 52 yX6_alter, Cond.instanceMethod yX6_alter, Cond.selects RX6 yX6_alter yX6_alter, Cond.code yX6_alter cX6_alter 5 (some .int), Cond.methodLink RX6 225 yX6_isFile, Cond.instanceMethod yX6_isFile, Cond.selects RX6 yX6_isFile yX6_isFile, Cond.code yX6_isFile cX6_isFile 2 (some .boolean), Cond.methodLink RL 53 yX5_cut, Cond.instanceMethod yX5_cut]
def wsL_law_r18 : List Cond := [Cond.selects RX5 yX5_cut yX5_cut, Cond.code yX5_cut cX5_cut 5 (some .int), Cond.methodLink RX5 139 yX2_count, Cond.methodLink RL 56 yX6_cut, Cond.instanceMethod yX6_cut, Cond.selects RX6 yX6_cut yX6_cut, Cond.code yX6_cut cX6_cut 4 (some .int), Cond.methodLink RL 57 yX5_read, Cond.instanceMethod yX5_read, Cond.selects RX5 yX5_read yX5_read, Cond.code yX5_read cX5_read 3 (some .int), Cond.methodLink RX5 143 yX5_check, Cond.instanceMethod yX5_check, Cond.selects RX5 yX5_check yX5_check, Cond.code yX5_check cX5_check 5 (some .boolean), Cond.methodLink RX5 162 yX5_matches, Cond.instanceMethod yX5_matches, Cond.selects RX5 yX5_matches yX5_matches, Cond.code yX5_matches cX5_matches 3 (some .boolean), Cond.methodLink RX5 202 yX1_equalTo, Cond.instanceMethod yX1_equalTo, Cond.selects RX1 yX1_equalTo yX1_equalTo, Cond.code yX1_equalTo cX1_equalTo 3 (some .boolean), Cond.methodLink RL 60 yX6_read]
def wsL_law_r19 : List Cond := [Cond.instanceMethod yX6_read, Cond.selects RX6 yX6_read yX6_read, Cond.code yX6_read cX6_read 3 (some .int), Cond.methodLink RX6 231 yX6_check, Cond.instanceMethod yX6_check, Cond.selects RX6 yX6_check yX6_check, Cond.code yX6_check cX6_check 4 (some .boolean), Cond.methodLink RX6 228 yX6_fits, Cond.instanceMethod yX6_fits, Cond.selects RX6 yX6_fits yX6_fits, Cond.code yX6_fits cX6_fits 2 (some .boolean), Cond.methodLink RX6 193 yX6_fill, Cond.instanceMethod yX6_fill, Cond.selects RX6 yX6_fill yX6_fill, Cond.code yX6_fill cX6_fill 3 none, Cond.methodLink RX6 196 yX6_has, Cond.instanceMethod yX6_has, Cond.selects RX6 yX6_has yX6_has, Cond.code yX6_has cX6_has 4 (some .boolean), Cond.methodLink RL 61 yX5_schedule, Cond.instanceMethod yX5_schedule, Cond.selects RX5 yX5_schedule yX5_schedule, Cond.code yX5_schedule cX5_schedule 4 (some .int), Cond.methodLink RX5 147 yX0_plan]
def wsL_law_r20 : List Cond := [Cond.instanceMethod yX0_plan, Cond.selects RX0 yX0_plan yX0_plan, Cond.code yX0_plan cX0_plan 3 none, Cond.fieldLink RX0 29 "FixityRows$KeptFile" "span" "I", Cond.methodLink RL 64 yX6_schedule, Cond.instanceMethod yX6_schedule, Cond.selects RX6 yX6_schedule yX6_schedule, Cond.code yX6_schedule cX6_schedule 4 (some .int), Cond.methodLink RL 65 yX5_due, Cond.instanceMethod yX5_due, Cond.selects RX5 yX5_due yX5_due, Cond.code yX5_due cX5_due 4 (some .int), Cond.fieldLink RX5 150 "FixityRows" "checkedCount" "I", Cond.methodLink RX5 153 yX5_longestWaiting, Cond.instanceMethod yX5_longestWaiting, Cond.selects RX5 yX5_longestWaiting yX5_longestWaiting, Cond.code yX5_longestWaiting cX5_longestWaiting 6 (some .int), Cond.methodLink RX5 206 yX0_isWaiting, Cond.instanceMethod yX0_isWaiting, Cond.selects RX0 yX0_isWaiting yX0_isWaiting, Cond.code yX0_isWaiting cX0_isWaiting 2 (some .boolean), Cond.methodLink RX5 156 yX0_planBehind, Cond.instanceMethod yX0_planBehind, Cond.selects RX0 yX0_planBehind yX0_planBehind]
def wsL_law_r21 : List Cond := [Cond.code yX0_planBehind cX0_planBehind 2 none, Cond.methodLink RX0 32 yX0_isWaiting, Cond.methodLink RX5 159 yX5_countWaiting, Cond.instanceMethod yX5_countWaiting, Cond.selects RX5 yX5_countWaiting yX5_countWaiting, Cond.code yX5_countWaiting cX5_countWaiting 4 (some .int), Cond.methodLink RL 68 yX6_due, Cond.instanceMethod yX6_due, Cond.selects RX6 yX6_due yX6_due, Cond.code yX6_due cX6_due 4 (some .int), Cond.fieldLink RX6 238 "FixityRowsModel" "told" "I", Cond.methodLink RX6 241 yX6_first, Cond.instanceMethod yX6_first, Cond.selects RX6 yX6_first yX6_first, Cond.code yX6_first cX6_first 4 (some .int), Cond.methodLink RX6 235 yX6_isDue, Cond.instanceMethod yX6_isDue, Cond.selects RX6 yX6_isDue yX6_isDue, Cond.code yX6_isDue cX6_isDue 3 (some .boolean), Cond.methodLink RL 69 yX5_told, Cond.instanceMethod yX5_told, Cond.selects RX5 yX5_told yX5_told, Cond.code yX5_told cX5_told 3 (some .int), Cond.methodLink RL 72 yX6_told]
def wsL_law_r22 : List Cond := [Cond.instanceMethod yX6_told, Cond.selects RX6 yX6_told yX6_told, Cond.code yX6_told cX6_told 3 (some .int), Cond.methodLink RL 73 yX5_mend, Cond.instanceMethod yX5_mend, Cond.selects RX5 yX5_mend yX5_mend, Cond.code yX5_mend cX5_mend 5 (some .int), Cond.methodLink RX5 166 yX5_firstCopyFor, Cond.instanceMethod yX5_firstCopyFor, Cond.selects RX5 yX5_firstCopyFor yX5_firstCopyFor, Cond.code yX5_firstCopyFor cX5_firstCopyFor 4 (some .int), Cond.methodLink RL 76 yX6_mend, Cond.instanceMethod yX6_mend, Cond.selects RX6 yX6_mend yX6_mend, Cond.code yX6_mend cX6_mend 5 (some .int), Cond.methodLink RL 77 yX5_about, Cond.instanceMethod yX5_about, Cond.selects RX5 yX5_about yX5_about, Cond.code yX5_about cX5_about 4 (some .int), Cond.methodLink RL 80 yX6_about, Cond.instanceMethod yX6_about, Cond.selects RX6 yX6_about yX6_about, Cond.code yX6_about cX6_about 3 (some .int), Cond.methodLink RL 81 yX5_row]
def wsL_law_r23 : List Cond := [Cond.instanceMethod yX5_row, Cond.selects RX5 yX5_row yX5_row, Cond.code yX5_row cX5_row 3 (some .int), Cond.methodLink RX5 179 yX3_has, Cond.methodLink RX5 180 yX3_kindOf, Cond.methodLink RX5 183 yX3_fileOf, Cond.methodLink RX5 186 yX3_dayOf, Cond.methodLink RX5 189 yX3_firstWordOf, Cond.instanceMethod yX3_firstWordOf, Cond.selects RX3 yX3_firstWordOf yX3_firstWordOf, Cond.code yX3_firstWordOf cX3_firstWordOf 2 (some .int), Cond.methodLink RL 84 yX6_row, Cond.instanceMethod yX6_row, Cond.selects RX6 yX6_row yX6_row, Cond.code yX6_row cX6_row 5 (some .int), Cond.methodLink RL 85 yX5_spoil, Cond.instanceMethod yX5_spoil, Cond.selects RX5 yX5_spoil yX5_spoil, Cond.code yX5_spoil cX5_spoil 3 (some .int), Cond.methodLink RX5 192 yX3_remove, Cond.instanceMethod yX3_remove, Cond.selects RX3 yX3_remove yX3_remove, Cond.code yX3_remove cX3_remove 4 none, Cond.methodLink RX5 195 yX3_changeDay]
def wsL_law_r24 : List Cond := [Cond.instanceMethod yX3_changeDay, Cond.selects RX3 yX3_changeDay yX3_changeDay, Cond.code yX3_changeDay cX3_changeDay 3 none, Cond.methodLink RL 88 yX6_spoil, Cond.instanceMethod yX6_spoil, Cond.selects RX6 yX6_spoil yX6_spoil, Cond.code yX6_spoil cX6_spoil 5 (some .int), Cond.methodLink RL 89 yX5_chain, Cond.instanceMethod yX5_chain, Cond.selects RX5 yX5_chain yX5_chain, Cond.code yX5_chain cX5_chain 1 (some .int), Cond.methodLink RX5 198 yX3_firstBroken, Cond.instanceMethod yX3_firstBroken, Cond.selects RX3 yX3_firstBroken yX3_firstBroken, Cond.code yX3_firstBroken cX3_firstBroken 2 (some .int), Cond.methodLink RX3 56 yX1_equalTo, Cond.methodLink RL 92 yX6_chain, Cond.instanceMethod yX6_chain, Cond.selects RX6 yX6_chain yX6_chain, Cond.code yX6_chain cX6_chain 3 (some .int)]
def wsL_law : List Cond := (wsL_law_r1 ++ (wsL_law_r2 ++ (wsL_law_r3 ++ (wsL_law_r4 ++ (wsL_law_r5 ++ (wsL_law_r6 ++ (wsL_law_r7 ++ (wsL_law_r8 ++ (wsL_law_r9 ++ (wsL_law_r10 ++ (wsL_law_r11 ++ (wsL_law_r12 ++ (wsL_law_r13 ++ (wsL_law_r14 ++ (wsL_law_r15 ++ (wsL_law_r16 ++ (wsL_law_r17 ++ (wsL_law_r18 ++ (wsL_law_r19 ++ (wsL_law_r20 ++ (wsL_law_r21 ++ (wsL_law_r22 ++ (wsL_law_r23 ++ wsL_law_r24))))))))))))))))))))))) ++ wsX50 ++ wsX60 ++ wsX10 ++ wsX40 ++ wsX20 ++ wsX00 ++ wsX30 ++ wsJx000600 ++ ([] : List Cond)
abbrev vwCl : List vw_C := [(RJx00060, TJx00060, 6), (RX0, TX0, 8), (RX1, TX1, 2), (RX2, TX2, 2), (RX3, TX3, 7), (RX4, TX4, 1), (RX5, TX5, 13), (RX6, TX6, 32)]
end
section
/-! ===== the world as numbered cells: N cells, cell k at ad k, holding f k ===== -/
def wd (N : Nat) (ad : Nat → Nat) (f : Nat → va_E) : va_W := (List.range N).map (fun k => (ad k, f k))
theorem wd_get {N : Nat} {ad : Nat → Nat} {f : Nat → va_E} {k : Nat} (h : k < N) : (wd N ad f)[k]? = some (ad k, f k) := by
  unfold wd
  rw [List.getElem?_map, List.getElem?_range h]
  rfl
theorem wd_len (N : Nat) (ad : Nat → Nat) (f : Nat → va_E) : (wd N ad f).length = N := by simp [wd]
theorem wd_of {N : Nat} {ad : Nat → Nat} {f : Nat → va_E} {k : Nat} {q : Nat × va_E} (h : (wd N ad f)[k]? = some q) : k < N ∧ q = (ad k, f k) := by
  have hk : k < N := by
    have := (List.getElem?_eq_some_iff.mp h).1
    rwa [wd_len] at this
  rw [wd_get hk] at h
  exact ⟨hk, (Option.some.inj h).symm⟩
theorem wd_none {N : Nat} {ad : Nat → Nat} {f : Nat → va_E} {k : Nat} (h : ¬ k < N) : (wd N ad f)[k]? = none := by
  rw [List.getElem?_eq_none_iff, wd_len]
  omega
theorem wd_set (N : Nat) (ad : Nat → Nat) (f : Nat → va_E) (k : Nat) (e : va_E) : (wd N ad f).set k (ad k, e) = wd N ad (va_up f k e) := by
  apply List.ext_getElem?
  intro i
  by_cases hi : i < N
  · rw [List.getElem?_set, wd_get hi, wd_get hi, wd_len]
    by_cases hk : k = i
    · subst hk
      rw [if_pos rfl, if_pos hi, va_up_self]
    · rw [if_neg hk, va_up_ne f e (fun h => hk h.symm)]
  · rw [wd_none hi, List.getElem?_eq_none_iff, List.length_set, wd_len]
    omega
theorem wd_push (N : Nat) (ad : Nat → Nat) (f : Nat → va_E) (q : Nat) (e : va_E) : wd N ad f ++ [(q, e)] = wd (N + 1) (va_up ad N q) (va_up f N e) := by
  apply List.ext_getElem?
  intro i
  by_cases hi : i < N
  · rw [List.getElem?_append_left (by rw [wd_len]; exact hi), wd_get hi, wd_get (Nat.lt_succ_of_lt hi), va_up_ne _ _ (Nat.ne_of_lt hi), va_up_ne _ _ (Nat.ne_of_lt hi)]
  · rw [List.getElem?_append_right (by rw [wd_len]; omega), wd_len]
    by_cases he : i = N
    · subst he
      rw [wd_get (Nat.lt_succ_self i), va_up_self, va_up_self]
      simp
    · rw [wd_none (by omega), List.getElem?_eq_none_iff]
      simp
      omega
/-- the addresses from B on -/
def xA (B : Nat) : Nat → Prop := fun q => B ≤ q
def xD (N : Nat) (ad : Nat → Nat) (B : Nat) : Prop := (∀ i j : Nat, i < N → j < N → ad i = ad j → i = j) ∧ ∀ k : Nat, k < N → B ≤ ad k
theorem xD.va {N : Nat} {ad : Nat → Nat} {B : Nat} (h : xD N ad B) (f : Nat → va_E) : va_D (xA B) (wd N ad f) := by
  refine ⟨fun i j p q hi hj e => ?_, fun k q hk => ?_⟩
  · obtain ⟨a1, a2⟩ := wd_of hi
    obtain ⟨b1, b2⟩ := wd_of hj
    rw [a2, b2] at e
    exact h.1 i j a1 b1 e
  · obtain ⟨a1, a2⟩ := wd_of hk
    rw [a2]
    exact h.2 k a1
def xw (D : va_G) (cl : List vw_C) (N : Nat) (ad : Nat → Nat) (B : Nat) (H0 : Heap) (f : Nat → va_E) (H : Heap) (locs : List Loc) : Prop := va_P D cl (wd N ad f) H ∧ va_S (xA B) H0 H locs
/-- an array of ints (bytes, booleans), of references -/
abbrev ai (c : ClassId) (n : Nat) (g : Nat → Int32) : va_E := .inl (c, n, .inl g)
abbrev aq (c : ClassId) (n : Nat) (g : Nat → Option Nat) : va_E := .inl (c, n, .inr (.inr (.inr (.inr g))))
theorem xw.ext {D : va_G} {cl : List vw_C} {N : Nat} {ad : Nat → Nat} {B : Nat} {H0 : Heap} {f g : Nat → va_E} {H : Heap} {locs : List Loc} (h : xw D cl N ad B H0 f H locs) (e : ∀ k, k < N → f k = g k) : xw D cl N ad B H0 g H locs := by
  have : wd N ad f = wd N ad g := List.map_congr_left (fun k hk => by rw [e k (List.mem_range.mp hk)])
  exact ⟨by rw [← this]; exact h.1, h.2⟩
theorem arrV_ext {c : ClassId} {n : Nat} {g g' : Nat → Value} (h : ∀ j, j < n → g j = g' j) : arrV c n g = arrV c n g' := by
  unfold arrV
  congr 1
  apply Array.ext
  · simp
  · intro i h1 h2
    simp at h1
    simp
    exact h i h1
/-- an array's content counts only below its length -/
theorem xw.arr {D : va_G} {cl : List vw_C} {N : Nat} {ad : Nat → Nat} {B : Nat} {H0 : Heap} {f : Nat → va_E} {H : Heap} {locs : List Loc} {k : Nat} {c : ClassId} {n : Nat} {g g' : Nat → Int32} (h : xw D cl N ad B H0 (va_up f k (ai c n g)) H locs) (e : ∀ j, j < n → g j = g' j) : xw D cl N ad B H0 (va_up f k (ai c n g')) H locs := by
  refine ⟨fun i q hq => ?_, h.2⟩
  obtain ⟨hi, rfl⟩ := wd_of hq
  have h1 := h.1 i _ (wd_get hi)
  by_cases hk : i = k
  · subst hk
    rw [va_up_self] at h1 ⊢
    have h2 : H[ad i]? = some (vp_cell c (n, .inl g)) := h1
    show H[ad i]? = some (vp_cell c (n, .inl g'))
    rw [h2, vp_cell_i, vp_cell_i, arrV_ext (fun j hj => by rw [e j hj])]
  · rw [va_up_ne _ _ hk] at h1 ⊢
    exact h1
end
section
/-! ===== rows over numbered cells ===== -/
section XR
variable {p : Program} {l : Launch} {e : Env} {R : Room} {s : State} {m : MethodId} {args : Array Value} {below : List Frame} {meth : Method} {c : Code} {H : Heap} {locs : List Loc} {cells slots : Nat} {Q : State → Prop}
variable {cc : ByteArray} {pc : Nat} {ls : Array Slot} {rest : List Value} {D : va_G} {cl : List vw_C} {tys : List (ClassId × FieldType)} {N : Nat} {ad : Nat → Nat} {B : Nat} {f : Nat → va_E}
theorem wd_cell {k : Nat} {e0 : va_E} (h : k < N) (he : f k = e0) : (wd N ad f)[k]? = some (ad k, e0) := by rw [wd_get h, he]
theorem x_get (hx : p.tables.exec = Jvm.exec) (hb : c.code = cc) {own ref C : String} {T : u_T} {n ci index : Nat} {Ts : List Cond} (hts : ∀ w ∈ Ts, w.before args s = true) (hin : ∀ w ∈ u_ws C T n, w ∈ Ts) (hown : s.vm.findClass own = some m.cls) (hK : va_K D cl tys s) (hw : xw D cl N ad B s.heap f H locs) (q : Nat) (hq : q < N) {fs : List Value} (he : f q = .inr (ci, fs)) (hc : cl[ci]? = some (C, T, n)) (k : Nat) (hk : k < n) (hlink : (Cond.fieldLink own index ref (T k).2.1 (T k).2.2.1).before args s = true) (hsame : ∀ x, s.fieldFound? (T k).1 (T k).2.1 (T k).2.2.1 = some x → s.fieldFound? ref (T k).2.1 (T k).2.2.1 = some x) {v : Value} (hv : fs[k]? = some v) (hdg : decode cc pc = .ok (.getfield index, 3))
    (kk : W p l e R s m args below meth c H locs cells slots Q (F0 m (pc + 3) ls (v :: rest))) : W p l e R s m args below meth c H locs cells slots Q (F0 m pc ls (.ref (ad q) :: rest)) :=
  va_get hx hb hts hin hown hK hw.1 q (wd_cell hq he) hc k hk hlink hsame hv hdg kk
theorem x_getN (hx : p.tables.exec = Jvm.exec) (hb : c.code = cc) {own ref C host : String} {T : u_T} {n ci index : Nat} {Ts : List Cond} (hts : ∀ w ∈ Ts, w.before args s = true) (hin : ∀ w ∈ u_ws C T n, w ∈ Ts) (hown : s.vm.findClass own = some m.cls) (hK : va_K D cl tys s) (hw : xw D cl N ad B s.heap f H locs) (q : Nat) (hq : q < N) {fs : List Value} (he : f q = .inr (ci, fs)) (hc : cl[ci]? = some (C, T, n)) (k : Nat) (hk : k < n) (hlink : va_Nw (.fieldLinkNest own index ref (T k).2.1 (T k).2.2.1 host) s) (hsame : ∀ x, s.fieldFound? (T k).1 (T k).2.1 (T k).2.2.1 = some x → s.fieldFound? ref (T k).2.1 (T k).2.2.1 = some x) {v : Value} (hv : fs[k]? = some v) (hdg : decode cc pc = .ok (.getfield index, 3))
    (kk : W p l e R s m args below meth c H locs cells slots Q (F0 m (pc + 3) ls (v :: rest))) : W p l e R s m args below meth c H locs cells slots Q (F0 m pc ls (.ref (ad q) :: rest)) :=
  va_getN hx hb hts hin hown hK hw.1 q (wd_cell hq he) hc k hk (va_Nw.use rfl hlink) hsame hv hdg kk
theorem x_put (hx : p.tables.exec = Jvm.exec) (hb : c.code = cc) {own ref C : String} {T : u_T} {n ci index : Nat} {Ts : List Cond} (hts : ∀ w ∈ Ts, w.before args s = true) (hin : ∀ w ∈ u_ws C T n, w ∈ Ts) (ty0 : Nat → FieldType) (hty : ∀ k, k < n → parseFieldDescriptor (T k).2.2.1 = some (ty0 k)) (hnm : ∀ a, a < n → ∀ b, b < n → a ≠ b → (T a).2.1 ≠ (T b).2.1) (hown : s.vm.findClass own = some m.cls) (hK : va_K D cl tys s) (dd : xD N ad B) (hw : xw D cl N ad B s.heap f H locs) (q : Nat) (hq : q < N) {fs fs' : List Value} (he : f q = .inr (ci, fs)) (hc : cl[ci]? = some (C, T, n)) (k : Nat) (hk : k < n) (hlink : (Cond.fieldLink own index ref (T k).2.1 (T k).2.2.1).before args s = true) (hsame : ∀ x, s.fieldFound? (T k).1 (T k).2.1 (T k).2.2.1 = some x → s.fieldFound? ref (T k).2.1 (T k).2.2.1 = some x) (hfin : (T k).2.2.2 = false) {v : Value} (hn : narrow (ty0 k) v = v) (hfit : fits (ty0 k) v = true) (hl : k < fs.length) (hfs : fs.set k v = fs')
    (hdg : decode cc pc = .ok (.putfield index, 3)) (kk : ∀ (H1 : Heap) (locs1 : List Loc), xw D cl N ad B s.heap (va_up f q (.inr (ci, fs'))) H1 locs1 → W p l e R s m args below meth c H1 locs1 cells slots Q (F0 m (pc + 3) ls rest)) : W p l e R s m args below meth c H locs cells slots Q (F0 m pc ls (v :: .ref (ad q) :: rest)) := by
  refine va_put hx hb hts hin ty0 hty hnm hown hK hw.1 (dd.va f) hw.2 q (wd_cell hq he) hc k hk hlink hsame hfin (hty k hk) hn hfit hl hdg (fun H1 locs1 h1 _ h3 => kk H1 locs1 ⟨?_, h3⟩)
  rw [← wd_set, ← hfs]
  exact h1
theorem x_putN (hx : p.tables.exec = Jvm.exec) (hb : c.code = cc) {own ref C host : String} {T : u_T} {n ci index : Nat} {Ts : List Cond} (hts : ∀ w ∈ Ts, w.before args s = true) (hin : ∀ w ∈ u_ws C T n, w ∈ Ts) (ty0 : Nat → FieldType) (hty : ∀ k, k < n → parseFieldDescriptor (T k).2.2.1 = some (ty0 k)) (hnm : ∀ a, a < n → ∀ b, b < n → a ≠ b → (T a).2.1 ≠ (T b).2.1) (hown : s.vm.findClass own = some m.cls) (hK : va_K D cl tys s) (dd : xD N ad B) (hw : xw D cl N ad B s.heap f H locs) (q : Nat) (hq : q < N) {fs fs' : List Value} (he : f q = .inr (ci, fs)) (hc : cl[ci]? = some (C, T, n)) (k : Nat) (hk : k < n) (hlink : va_Nw (.fieldLinkNest own index ref (T k).2.1 (T k).2.2.1 host) s) (hsame : ∀ x, s.fieldFound? (T k).1 (T k).2.1 (T k).2.2.1 = some x → s.fieldFound? ref (T k).2.1 (T k).2.2.1 = some x) (hfin : (T k).2.2.2 = false) {v : Value} (hn : narrow (ty0 k) v = v) (hfit : fits (ty0 k) v = true) (hl : k < fs.length) (hfs : fs.set k v = fs')
    (hdg : decode cc pc = .ok (.putfield index, 3)) (kk : ∀ (H1 : Heap) (locs1 : List Loc), xw D cl N ad B s.heap (va_up f q (.inr (ci, fs'))) H1 locs1 → W p l e R s m args below meth c H1 locs1 cells slots Q (F0 m (pc + 3) ls rest)) : W p l e R s m args below meth c H locs cells slots Q (F0 m pc ls (v :: .ref (ad q) :: rest)) := by
  refine va_putN hx hb hts hin ty0 hty hnm hown hK hw.1 (dd.va f) hw.2 q (wd_cell hq he) hc k hk (va_Nw.use rfl hlink) hsame hfin (hty k hk) hn hfit hl hdg (fun H1 locs1 h1 _ h3 => kk H1 locs1 ⟨?_, h3⟩)
  rw [← wd_set, ← hfs]
  exact h1
theorem x_iald (hx : p.tables.exec = Jvm.exec) (hb : c.code = cc) (hK : va_K D cl tys s) (hw : xw D cl N ad B s.heap f H locs) (q t0 : Nat) (hq : q < N) {cA : ClassId} {n : Nat} {g : Nat → Int32} (he : f q = ai cA n g) (ht : tys[t0]? = some (cA, .int)) {i : Int32} {j : Nat} (hi : i = nI j) (hj : j < n) (hn : n < 2 ^ 31) (hdg : decode cc pc = .ok (.iaload, 1))
    (kk : W p l e R s m args below meth c H locs cells slots Q (F0 m (pc + 1) ls (.int (g j) :: rest))) : W p l e R s m args below meth c H locs cells slots Q (F0 m pc ls (.int i :: .ref (ad q) :: rest)) := by
  subst hi
  refine va_iald hx hb hK hw.1 q t0 (wd_cell hq he) ht (vp_in_nI hj hn) hdg ?_
  rw [nI_clamp (by omega)]
  exact kk
theorem x_bald (hx : p.tables.exec = Jvm.exec) (hb : c.code = cc) (hK : va_K D cl tys s) (hw : xw D cl N ad B s.heap f H locs) (q t0 : Nat) (hq : q < N) {cA : ClassId} {n : Nat} {g : Nat → Int32} (he : f q = ai cA n g) (ht : tys[t0]? = some (cA, .byte)) {i : Int32} {j : Nat} (hi : i = nI j) (hj : j < n) (hn : n < 2 ^ 31) (hdg : decode cc pc = .ok (.baload, 1))
    (kk : W p l e R s m args below meth c H locs cells slots Q (F0 m (pc + 1) ls (.int (g j) :: rest))) : W p l e R s m args below meth c H locs cells slots Q (F0 m pc ls (.int i :: .ref (ad q) :: rest)) := by
  subst hi
  refine va_bald hx hb hK hw.1 q t0 (wd_cell hq he) ht (vp_in_nI hj hn) hdg ?_
  rw [nI_clamp (by omega)]
  exact kk
theorem x_zald (hx : p.tables.exec = Jvm.exec) (hb : c.code = cc) (hK : va_K D cl tys s) (hw : xw D cl N ad B s.heap f H locs) (q t0 : Nat) (hq : q < N) {cA : ClassId} {n : Nat} {g : Nat → Int32} (he : f q = ai cA n g) (ht : tys[t0]? = some (cA, .boolean)) {i : Int32} {j : Nat} (hi : i = nI j) (hj : j < n) (hn : n < 2 ^ 31) (hdg : decode cc pc = .ok (.baload, 1))
    (kk : W p l e R s m args below meth c H locs cells slots Q (F0 m (pc + 1) ls (.int (g j) :: rest))) : W p l e R s m args below meth c H locs cells slots Q (F0 m pc ls (.int i :: .ref (ad q) :: rest)) := by
  subst hi
  refine va_zald hx hb hK hw.1 q t0 (wd_cell hq he) ht (vp_in_nI hj hn) hdg ?_
  rw [nI_clamp (by omega)]
  exact kk
theorem x_iast (hx : p.tables.exec = Jvm.exec) (hb : c.code = cc) (hK : va_K D cl tys s) (dd : xD N ad B) (hw : xw D cl N ad B s.heap f H locs) (q t0 : Nat) (hq : q < N) {cA : ClassId} {n : Nat} {g : Nat → Int32} (he : f q = ai cA n g) (ht : tys[t0]? = some (cA, .int)) {i x : Int32} {j : Nat} (hi : i = nI j) (hj : j < n) (hn : n < 2 ^ 31) (hdg : decode cc pc = .ok (.iastore, 1))
    (kk : ∀ (H1 : Heap) (locs1 : List Loc), xw D cl N ad B s.heap (va_up f q (ai cA n (upd g j x))) H1 locs1 → W p l e R s m args below meth c H1 locs1 cells slots Q (F0 m (pc + 1) ls rest)) : W p l e R s m args below meth c H locs cells slots Q (F0 m pc ls (.int x :: .int i :: .ref (ad q) :: rest)) := by
  subst hi
  refine va_iast hx hb hK hw.1 (dd.va f) hw.2 q t0 (wd_cell hq he) ht (vp_in_nI hj hn) hdg (fun H1 locs1 h1 _ h3 => kk H1 locs1 ⟨?_, h3⟩)
  rw [← wd_set]
  rw [nI_clamp (by omega)] at h1
  exact h1
theorem x_bast (hx : p.tables.exec = Jvm.exec) (hb : c.code = cc) (hK : va_K D cl tys s) (dd : xD N ad B) (hw : xw D cl N ad B s.heap f H locs) (q t0 : Nat) (hq : q < N) {cA : ClassId} {n : Nat} {g : Nat → Int32} (he : f q = ai cA n g) (ht : tys[t0]? = some (cA, .byte)) {i x y : Int32} {j : Nat} (hi : i = nI j) (hj : j < n) (hn : n < 2 ^ 31) (hy : x.toInt8.toInt32 = y) (hdg : decode cc pc = .ok (.bastore, 1))
    (kk : ∀ (H1 : Heap) (locs1 : List Loc), xw D cl N ad B s.heap (va_up f q (ai cA n (upd g j y))) H1 locs1 → W p l e R s m args below meth c H1 locs1 cells slots Q (F0 m (pc + 1) ls rest)) : W p l e R s m args below meth c H locs cells slots Q (F0 m pc ls (.int x :: .int i :: .ref (ad q) :: rest)) := by
  subst hi
  refine va_bast hx hb hK hw.1 (dd.va f) hw.2 q t0 (wd_cell hq he) ht (vp_in_nI hj hn) hdg (fun H1 locs1 h1 _ h3 => kk H1 locs1 ⟨?_, h3⟩)
  rw [← wd_set, ← hy]
  rw [nI_clamp (by omega), vp_nar_byte] at h1
  exact h1
theorem x_zast (hx : p.tables.exec = Jvm.exec) (hb : c.code = cc) (hK : va_K D cl tys s) (dd : xD N ad B) (hw : xw D cl N ad B s.heap f H locs) (q t0 : Nat) (hq : q < N) {cA : ClassId} {n : Nat} {g : Nat → Int32} (he : f q = ai cA n g) (ht : tys[t0]? = some (cA, .boolean)) {i x : Int32} {j : Nat} (hi : i = nI j) (hj : j < n) (hn : n < 2 ^ 31) (hy : x = 0 ∨ x = 1) (hdg : decode cc pc = .ok (.bastore, 1))
    (kk : ∀ (H1 : Heap) (locs1 : List Loc), xw D cl N ad B s.heap (va_up f q (ai cA n (upd g j x))) H1 locs1 → W p l e R s m args below meth c H1 locs1 cells slots Q (F0 m (pc + 1) ls rest)) : W p l e R s m args below meth c H locs cells slots Q (F0 m pc ls (.int x :: .int i :: .ref (ad q) :: rest)) := by
  subst hi
  refine va_zast hx hb hK hw.1 (dd.va f) hw.2 q t0 (wd_cell hq he) ht (vp_in_nI hj hn) hdg (fun H1 locs1 h1 _ h3 => kk H1 locs1 ⟨?_, h3⟩)
  rw [← wd_set]
  have hz : vp_nar .boolean x = x := by rcases hy with rfl | rfl <;> rfl
  rw [nI_clamp (by omega), hz] at h1
  exact h1
theorem x_alen (hx : p.tables.exec = Jvm.exec) (hb : c.code = cc) (hK : va_K D cl tys s) (hw : xw D cl N ad B s.heap f H locs) (q t0 : Nat) (hq : q < N) {cA : ClassId} {n : Nat} {g : Nat → Int32} (he : f q = ai cA n g) {ty : FieldType} (ht : tys[t0]? = some (cA, ty)) (hdg : decode cc pc = .ok (.arraylength, 1))
    (kk : W p l e R s m args below meth c H locs cells slots Q (F0 m (pc + 1) ls (.int (nI n) :: rest))) : W p l e R s m args below meth c H locs cells slots Q (F0 m pc ls (.ref (ad q) :: rest)) :=
  va_alen hx hb hK hw.1 q t0 (wd_cell hq he) ht rfl hdg kk
theorem x_aald (hx : p.tables.exec = Jvm.exec) (hb : c.code = cc) (hK : va_K D cl tys s) (hw : xw D cl N ad B s.heap f H locs) (q t0 : Nat) (hq : q < N) {cA : ClassId} {C : String} {n : Nat} {g : Nat → Option Nat} (he : f q = aq cA n g) (ht : tys[t0]? = some (cA, .object C)) {i : Int32} {j a : Nat} (hi : i = nI j) (hj : j < n) (hn : n < 2 ^ 31) (hg : g j = some a) (hdg : decode cc pc = .ok (.aaload, 1))
    (kk : W p l e R s m args below meth c H locs cells slots Q (F0 m (pc + 1) ls (.ref a :: rest))) : W p l e R s m args below meth c H locs cells slots Q (F0 m pc ls (.int i :: .ref (ad q) :: rest)) := by
  subst hi
  refine va_aldq hx hb hK hw.1 q t0 (wd_cell hq he) ht (vp_in_nI hj hn) hdg ?_
  rw [nI_clamp (by omega), hg]
  exact kk
/-- a row of an array of arrays -/
theorem x_aaldA (hx : p.tables.exec = Jvm.exec) (hb : c.code = cc) (hK : va_K D cl tys s) (hw : xw D cl N ad B s.heap f H locs) (q t0 : Nat) (hq : q < N) {cA : ClassId} {ty : FieldType} {n : Nat} {g : Nat → Option Nat} (he : f q = aq cA n g) (ht : tys[t0]? = some (cA, .array ty)) {i : Int32} {j a : Nat} (hi : i = nI j) (hj : j < n) (hn : n < 2 ^ 31) (hg : g j = some a) (hdg : decode cc pc = .ok (.aaload, 1))
    (kk : W p l e R s m args below meth c H locs cells slots Q (F0 m (pc + 1) ls (.ref a :: rest))) : W p l e R s m args below meth c H locs cells slots Q (F0 m pc ls (.int i :: .ref (ad q) :: rest)) := by
  subst hi
  have hin := vp_in_nI hj hn
  have hlt : (nI j).toNatClampNeg < n := Nat.not_le.mp fun z => hin (Or.inr z)
  have hcell : H[ad q]? = some (vp_cell cA (n, .inr (.inr (.inr (.inr g))))) := by
    have := hw.1 q _ (wd_cell hq he)
    exact this
  have hr : va_rf (g (nI j).toNatClampNeg) = .ref a := by rw [nI_clamp (by omega), hg]; rfl
  exact W.aald (v := .ref a) (ty := .array ty) hx hb hcell ((hK.2 t0 _ ht).1 n (fun j => va_rf (g j))) rfl (fun q => by cases q) (by show ¬ (nI j < 0 ∨ (arrV _ _ _).slots.size ≤ _); rw [arrV_size]; exact hin) (by show (arrV _ _ _).slots[_]? = _; rw [arrV_read _ _ hlt, hr]) rfl rfl hdg kk
end XR
end
section
/-! ===== what a method of the system takes as given, beside its cells; calls over numbered cells ===== -/
def shKL : List Int32 := [1116352408, 1899447441, -1245643825, -373957723, 961987163, 1508970993, -1841331548, -1424204075, -670586216, 310598401, 607225278, 1426881987, 1925078388, -2132889090, -1680079193, -1046744716, -459576895, -272742522, 264347078, 604807628, 770255983, 1249150122, 1555081692, 1996064986, -1740746414, -1473132947, -1341970488, -1084653625, -958395405, -710438585, 113926993, 338241895, 666307205, 773529912, 1294757372, 1396182291, 1695183700, 1986661051, -2117940946, -1838011259, -1564481375, -1474664885, -1035236496, -949202525, -778901479, -694614492, -200395387, 275423344, 430227734, 506948616, 659060556, 883997877, 958139571, 1322822218, 1537002063, 1747873779, 1955562222, 2024104815, -2067236844, -1933114872, -1866530822, -1538233109, -1090935817, -965641998]
def shRL : List Int32 := [1779033703, -1150833019, 1013904242, -1521486534, 1359893119, -1694144372, 528734635, 1541459225]
/-- the constants of ALGORITHM 0 -/
def shK (j : Nat) : Int32 := shKL.getD j 0
def shR (j : Nat) : Int32 := shRL.getD j 0
def xNF : List (Nat × String × String) := [(103, "octets", "LFixityRows$Octets;"), (112, "longWords", "[I"), (115, "shortWord", "I"), (109, "algorithms", "I"), (173, "fittedDay", "I"), (176, "nextDay", "I"), (170, "mendings", "I")]
def xNM : List (String × Nat × MethodName) := [(RX5, 24, yX1_init), (RX5, 38, yX2_init), (RX5, 53, yX0_init), (RX0, 11, yX2_init), (RX5, 56, yX3_init), (RX3, 11, yX1_init), (RX3, 20, yX2_init)]
/-- links among nest mates, and the two static tables, at a state -/
def xE (tR tK B : Nat) (U : State) : Prop :=
  (∀ q ∈ xNF, va_Nw (.fieldLinkNest RX5 q.1 RX0 q.2.1 q.2.2 RX5) U) ∧ (∀ q ∈ xNM, va_Nw (.methodLinkNest q.1 q.2.1 q.2.2 RX5) U) ∧
  (va_Z RX1 "ROOTS" "[I" (.ref tR) (xA B) U U.heap ∧ va_T .int tR 8 (fun j => .int (shR j)) (xA B) U U.heap) ∧ va_Z RX1 "K" "[I" (.ref tK) (xA B) U U.heap ∧ va_T .int tK 64 (fun j => .int (shK j)) (xA B) U U.heap
theorem xE.warm {tR tK B : Nat} {s U : State} {locs : List Loc} (h : xE tR tK B s) (hW : s.WarmedH U.vm) (hS : va_S (xA B) s.heap U.heap locs) : xE tR tK B U := by
  obtain ⟨h1, h2, ⟨h3, h4⟩, h5, h6⟩ := h
  exact ⟨fun q hq => va_Nw.warmF hW (h1 q hq), fun q hq => va_Nw.warmM hW (h2 q hq), ⟨(h3.moved hW.alike).kept hS.2.1, (h4.moved hW.alike).kept hS.2.1⟩, (h5.moved hW.alike).kept hS.2.1, (h6.moved hW.alike).kept hS.2.1⟩
theorem xE.calling {tR tK B : Nat} {U : State} (h : xE tR tK B U) (g : JFrame) (mk : MethodId) (a : Array Value) : xE tR tK B (U.calling g mk a) := by
  obtain ⟨h1, h2, ⟨h3, h4⟩, h5, h6⟩ := h
  exact ⟨fun q hq => va_Nw.same (u := U) rfl rfl (h1 q hq), fun q hq => va_Nw.same (u := U) rfl rfl (h2 q hq), ⟨h3.moved (u := U) (Vm.Alike.refl U.vm), h4.moved (u := U) (Vm.Alike.refl U.vm)⟩, h5.moved (u := U) (Vm.Alike.refl U.vm), h6.moved (u := U) (Vm.Alike.refl U.vm)⟩
/-- a contract's start: the arguments, the world, what is given -/
def xPre (av : List Value) (D : va_G) (tys : List (ClassId × FieldType)) (N : Nat) (ad : Nat → Nat) (B tR tK : Nat) (f : Nat → va_E) : Array Value → State → Prop := va_Pc av (fun U => B ≤ U.heap.size ∧ va_P D vwCl (wd N ad f) U.heap ∧ va_K D vwCl tys U ∧ xE tR tK B U)
theorem xPre.blind (av : List Value) (D : va_G) (tys : List (ClassId × FieldType)) (N : Nat) (ad : Nat → Nat) (B tR tK : Nat) (f : Nat → va_E) : FrameBlind (xPre av D tys N ad B tR tK f) := by
  intro a U g mk h
  obtain ⟨h1, h2, h3, h4, h5⟩ := h
  exact ⟨h1, h2, h3, va_K.moved (u := U) (U := U.calling g mk a) (Vm.Alike.refl U.vm) h4, h5.calling g mk a⟩
/-- a contract's ends: an int (a boolean), nothing -/
def xQi (post : Int32 → (Nat → va_E) → Prop) (D : va_G) (N : Nat) (ad : Nat → Nat) (B : Nat) : Array Value → State → Outcome → State → Prop := va_Qi post (fun u t => va_P D vwCl (wd N ad u) t.heap) (xA B)
def xQv (post : (Nat → va_E) → Prop) (D : va_G) (N : Nat) (ad : Nat → Nat) (B : Nat) : Array Value → State → Outcome → State → Prop := va_Qv post (fun u t => va_P D vwCl (wd N ad u) t.heap) (xA B)
/-- a method that makes nothing, from its start -/
theorem x_open {l : Launch} {y : MethodName} {ws ws' : List Cond} {rm : Room} {Qc : Array Value → State → Outcome → State → Prop} {mc ms : Nat} {cc : ByteArray} {maxL : Nat} {ret : Option FieldType} {av : List Value} {D : va_G} {tys : List (ClassId × FieldType)} {N : Nat} {ad : Nat → Nat} {B tR tK : Nat} {f : Nat → va_E} (hy : plainName y.cls = true) (hw : ws = Cond.code y cc maxL ret :: ws') (hlen : (lg_sl av).length ≤ maxL)
    (body : ∀ (p : Program) (e : Env) (s : State) (m : MethodId) (below : List Frame) (meth : Method) (c : Code) (ls : Array Slot), p.tables.exec = Jvm.exec → c.code = cc → c.maxLocals = maxL → s.vm.findClass y.cls = some m.cls → (∀ w ∈ ws, w.before av.toArray s = true) → meth.sig.returnType = ret → meth.locks = false → meth.name = y.name → B ≤ s.heap.size → va_K D vwCl tys s → xE tR tK B s → xw D vwCl N ad B s.heap f s.heap [] → lv_has ls maxL (lv_args 0 av) →
      W p l e rm s m av.toArray below meth c s.heap [] 0 0 (MQ below Qc av.toArray s mc ms (xA B)) (F0 m 0 ls [])) : Met l y ws rm (xPre av D tys N ad B tR tK f) Qc mc ms (xA B) := by
  refine Met.ofW (cc := cc) (maxL := maxL) (ret := ret) hy hw ?_
  intro p e s m args below meth c s₁ Bd hml hv
  obtain ⟨rfl, hB, hP, hK, hE⟩ := hv
  have hl := lv_entry av (n := maxL) hlen
  rw [lg_entry_eq]
  exact body p e s m below meth c _ Bd.exec Bd.bytes hml (findClass_of_methodNamed Bd.named) (atoms_spec (ws := ws) Bd.pre) Bd.returns Bd.notSynchronized (name_of_methodNamed Bd.named Bd.method).1 hB hK hE ⟨hP, va_S.rf⟩ hl
section XC
variable {p : Program} {l : Launch} {e : Env} {R : Room} {s : State} {m : MethodId} {args : Array Value} {below : List Frame} {meth : Method} {c : Code} {H : Heap} {locs : List Loc} {cells slots : Nat} {Q : State → Prop}
variable {cc : ByteArray} {pc nL : Nat} {ls : Array Slot} {As rest st : List Value} {D : va_G} {tys : List (ClassId × FieldType)} {N : Nat} {ad : Nat → Nat} {B tR tK : Nat} {f : Nat → va_E}
variable {y : MethodName} {bytes : ByteArray} {maxL n index : Nat} {ret : Option FieldType} {ws Ts : List Cond} {rm : Room} {own C : String} {q ci : Nat} {fs : List Value} {cq : vw_C}
theorem x_pre (hK : va_K D vwCl tys s) (hE : xE tR tK B s) (hw : xw D vwCl N ad B s.heap f H locs) (hB : B ≤ s.heap.size) (av : List Value) (U : State) (hU : U.heap = H) (hW : s.WarmedH U.vm) : xPre av D tys N ad B tR tK f av.toArray U := by
  refine ⟨rfl, by rw [hU]; exact Nat.le_trans hB hw.2.1, by rw [hU]; exact hw.1, va_K.moved hW.alike hK, ?_⟩
  exact hE.warm hW (by rw [hU]; exact hw.2)
/-- a call of an instance method that answers an int -/
theorem x_Vi {post : Int32 → (Nat → va_E) → Prop} (S : CallFix p m c cc nL s args Ts own) (hM : Met l y ws rm (xPre (.ref (ad q) :: As) D tys N ad B tR tK f) (xQi post D N ad B) 0 0 (xA B)) (cw : CallW R s args own C index y bytes maxL ret ws rm 0 0 n) (hK : va_K D vwCl tys s) (hE : xE tR tK B s) (hB : B ≤ s.heap.size) (hw : xw D vwCl N ad B s.heap f H locs) (hq : q < N) (he : f q = .inr (ci, fs)) (hc : vwCl[ci]? = some cq) (hC : cq.1 = C) (hst : st = As.reverse ++ .ref (ad q) :: rest) (hn : As.length = n) (hls : ls.size = nL) (hroom : (rest.map fun v => v.category).sum ≤ 8) (hf : cells ≤ R.cells ∧ slots ≤ R.slots) (hdg : decode cc pc = .ok (.invokevirtual index, 3))
    (kk : ∀ (r : Int32) (u : Nat → va_E) (H1 : Heap) (locs1 : List Loc), post r u → xw D vwCl N ad B s.heap u H1 locs1 → W p l e R s m args below meth c H1 locs1 cells slots Q (F0 m (pc + 3) ls (.int r :: rest))) : W p l e R s m args below meth c H locs cells slots Q (F0 m pc ls st) := by
  subst hst
  subst hC
  refine va_calli (va_runV (As := As) (rest := rest) S hM cw ⟨xPre.blind _ _ _ _ _ _ _ _ _, va_recv hK hw.1 hc (wd_cell hq he), fun U hU hW => x_pre hK hE hw hB _ U hU hW⟩ rfl hn hls rfl (lv_room hroom) hdg hf) hw.2 (fun _ _ h => h) (fun _ h => h) (fun r u t H1 locs1 ht _ hp hb _ _ hS => ?_)
  exact kk r u H1 locs1 hp ⟨by rw [← ht]; exact hb, hS⟩
theorem x_Vv {post : (Nat → va_E) → Prop} (S : CallFix p m c cc nL s args Ts own) (hM : Met l y ws rm (xPre (.ref (ad q) :: As) D tys N ad B tR tK f) (xQv post D N ad B) 0 0 (xA B)) (cw : CallW R s args own C index y bytes maxL ret ws rm 0 0 n) (hK : va_K D vwCl tys s) (hE : xE tR tK B s) (hB : B ≤ s.heap.size) (hw : xw D vwCl N ad B s.heap f H locs) (hq : q < N) (he : f q = .inr (ci, fs)) (hc : vwCl[ci]? = some cq) (hC : cq.1 = C) (hst : st = As.reverse ++ .ref (ad q) :: rest) (hn : As.length = n) (hls : ls.size = nL) (hroom : (rest.map fun v => v.category).sum ≤ 8) (hf : cells ≤ R.cells ∧ slots ≤ R.slots) (hdg : decode cc pc = .ok (.invokevirtual index, 3))
    (kk : ∀ (u : Nat → va_E) (H1 : Heap) (locs1 : List Loc), post u → xw D vwCl N ad B s.heap u H1 locs1 → W p l e R s m args below meth c H1 locs1 cells slots Q (F0 m (pc + 3) ls rest)) : W p l e R s m args below meth c H locs cells slots Q (F0 m pc ls st) := by
  subst hst
  subst hC
  refine va_callv (va_runV (As := As) (rest := rest) S hM cw ⟨xPre.blind _ _ _ _ _ _ _ _ _, va_recv hK hw.1 hc (wd_cell hq he), fun U hU hW => x_pre hK hE hw hB _ U hU hW⟩ rfl hn hls rfl (lv_room hroom) hdg hf) hw.2 (fun _ _ h => h) (fun _ h => h) (fun u t H1 locs1 ht _ hp hb _ _ hS => ?_)
  exact kk u H1 locs1 hp ⟨by rw [← ht]; exact hb, hS⟩
/-- a call of a static method that answers an int -/
theorem x_Si {post : Int32 → (Nat → va_E) → Prop} (S : CallFix p m c cc nL s args Ts own) (hM : Met l y ws rm (xPre As D tys N ad B tR tK f) (xQi post D N ad B) 0 0 (xA B)) (cw : CallB R s args own index y bytes maxL ret ws rm 0 0 n ∧ (Cond.static y).before args s = true) (hK : va_K D vwCl tys s) (hE : xE tR tK B s) (hB : B ≤ s.heap.size) (hw : xw D vwCl N ad B s.heap f H locs) (hst : st = As.reverse ++ rest) (hn : As.length = n) (hls : ls.size = nL) (hroom : (rest.map fun v => v.category).sum ≤ 8) (hf : cells ≤ R.cells ∧ slots ≤ R.slots) (hdg : decode cc pc = .ok (.invokestatic index, 3))
    (kk : ∀ (r : Int32) (u : Nat → va_E) (H1 : Heap) (locs1 : List Loc), post r u → xw D vwCl N ad B s.heap u H1 locs1 → W p l e R s m args below meth c H1 locs1 cells slots Q (F0 m (pc + 3) ls (.int r :: rest))) : W p l e R s m args below meth c H locs cells slots Q (F0 m pc ls st) := by
  subst hst
  refine va_calli (va_runS (As := As) (rest := rest) S hM cw ⟨xPre.blind _ _ _ _ _ _ _ _ _, fun U hU hW => x_pre hK hE hw hB _ U hU hW⟩ rfl hn hls rfl (lv_room hroom) hdg hf) hw.2 (fun _ _ h => h) (fun _ h => h) (fun r u t H1 locs1 ht _ hp hb _ _ hS => ?_)
  exact kk r u H1 locs1 hp ⟨by rw [← ht]; exact hb, hS⟩
/-- ends -/
theorem x_iret {post : Int32 → (Nat → va_E) → Prop} {v : Int32} (hx : p.tables.exec = Jvm.exec) (hb : c.code = cc) (hr : meth.sig.returnType = some .int) (hlocks : meth.locks = false) (hw : xw D vwCl N ad B s.heap f H locs) (hp : post v f) (hdg : decode cc pc = .ok (.ireturn, 1)) : W p l e R s m args below meth c H locs cells slots (MQ below (xQi post D N ad B) args s cells slots (xA B)) (F0 m pc ls [.int v]) :=
  W.iret hx hb hr (fun t ht _ => ⟨⟨v, f, rfl, hp, (show va_P D vwCl (wd N ad f) t.heap by rw [ht]; exact hw.1)⟩, hw.2.F ht⟩) hw.2.2.2 hdg hlocks
theorem x_zret {post : Int32 → (Nat → va_E) → Prop} {v : Int32} (hx : p.tables.exec = Jvm.exec) (hb : c.code = cc) (hr : meth.sig.returnType = some .boolean) (hlocks : meth.locks = false) (hw : xw D vwCl N ad B s.heap f H locs) (hv : v = 0 ∨ v = 1) (hp : post v f) (hdg : decode cc pc = .ok (.ireturn, 1)) : W p l e R s m args below meth c H locs cells slots (MQ below (xQi post D N ad B) args s cells slots (xA B)) (F0 m pc ls [.int v]) :=
  W.zret hx hb hr (by rcases hv with rfl | rfl <;> rfl) (fun t ht _ => ⟨⟨v, f, rfl, hp, (show va_P D vwCl (wd N ad f) t.heap by rw [ht]; exact hw.1)⟩, hw.2.F ht⟩) hw.2.2.2 hdg hlocks
theorem x_vret {post : (Nat → va_E) → Prop} (hx : p.tables.exec = Jvm.exec) (hb : c.code = cc) (hr : meth.sig.returnType = none) (hlocks : meth.locks = false) (hw : xw D vwCl N ad B s.heap f H locs) (hp : post f) (hdg : decode cc pc = .ok (.return_, 1)) : W p l e R s m args below meth c H locs cells slots (MQ below (xQv post D N ad B) args s cells slots (xA B)) (F0 m pc ls []) :=
  W.vret hx hb hr (fun t ht _ => ⟨⟨f, rfl, hp, (show va_P D vwCl (wd N ad f) t.heap by rw [ht]; exact hw.1)⟩, hw.2.F ht⟩) hw.2.2.2 hdg hlocks
/-- the static tables -/
theorem x_roots (hx : p.tables.exec = Jvm.exec) (hb : c.code = cc) (hE : xE tR tK B s) (hw : xw D vwCl N ad B s.heap f H locs) (hown : s.vm.findClass own = some m.cls) (hlink : (Cond.fieldLink own index RX1 "ROOTS" "[I").before args s = true) (hdg : decode cc pc = .ok (.getstatic index, 3)) (kk : W p l e R s m args below meth c H locs cells slots Q (F0 m (pc + 3) ls (.ref tR :: rest))) : W p l e R s m args below meth c H locs cells slots Q (F0 m pc ls rest) :=
  va_gets hx hb hE.2.2.1.1 hw.2 hown hlink (fun _ h => h) hdg kk
theorem x_kays (hx : p.tables.exec = Jvm.exec) (hb : c.code = cc) (hE : xE tR tK B s) (hw : xw D vwCl N ad B s.heap f H locs) (hown : s.vm.findClass own = some m.cls) (hlink : (Cond.fieldLink own index RX1 "K" "[I").before args s = true) (hdg : decode cc pc = .ok (.getstatic index, 3)) (kk : W p l e R s m args below meth c H locs cells slots Q (F0 m (pc + 3) ls (.ref tK :: rest))) : W p l e R s m args below meth c H locs cells slots Q (F0 m pc ls rest) :=
  va_gets hx hb hE.2.2.2.1 hw.2 hown hlink (fun _ h => h) hdg kk
theorem x_root (hx : p.tables.exec = Jvm.exec) (hb : c.code = cc) (hE : xE tR tK B s) (hw : xw D vwCl N ad B s.heap f H locs) {i : Int32} {j : Nat} (hi : i = nI j) (hj : j < 8) (hdg : decode cc pc = .ok (.iaload, 1)) (kk : W p l e R s m args below meth c H locs cells slots Q (F0 m (pc + 1) ls (.int (shR j) :: rest))) : W p l e R s m args below meth c H locs cells slots Q (F0 m pc ls (.int i :: .ref tR :: rest)) := by
  subst hi
  exact va_ti hx hb hE.2.2.1.2 hw.2 (vp_in_nI hj (by decide)) (by rw [nI_clamp (by omega)]) hdg kk
theorem x_kay (hx : p.tables.exec = Jvm.exec) (hb : c.code = cc) (hE : xE tR tK B s) (hw : xw D vwCl N ad B s.heap f H locs) {i : Int32} {j : Nat} (hi : i = nI j) (hj : j < 64) (hdg : decode cc pc = .ok (.iaload, 1)) (kk : W p l e R s m args below meth c H locs cells slots Q (F0 m (pc + 1) ls (.int (shK j) :: rest))) : W p l e R s m args below meth c H locs cells slots Q (F0 m pc ls (.int i :: .ref tK :: rest)) := by
  subst hi
  exact va_ti hx hb hE.2.2.2.2 hw.2 (vp_in_nI hj (by decide)) (by rw [nI_clamp (by omega)]) hdg kk
end XC
end
section
set_option maxRecDepth 20000 in
theorem ggX0_init_X2_init : GoodIn wsX0_init wsX2_init := goodIn_r _ [13, 14, 2, 3, 8, 15, 16, 17] (by decide +kernel) (by decide +kernel)
set_option maxRecDepth 20000 in
theorem gX0_init_X2_init_n11 : GoodIn wsX0_init (wsX2_init) := ggX0_init_X2_init
theorem dX0_init_0 : decode cX0_init 0 = .ok (.aload_n 0, 1) := by decide +kernel
theorem dX0_init_1 : decode cX0_init 1 = .ok (.invokespecial 3, 3) := by decide +kernel
theorem dX0_init_4 : decode cX0_init 4 = .ok (.aload_n 0, 1) := by decide +kernel
theorem dX0_init_5 : decode cX0_init 5 = .ok (.new 9, 3) := by decide +kernel
theorem dX0_init_8 : decode cX0_init 8 = .ok (.dup, 1) := by decide +kernel
theorem dX0_init_9 : decode cX0_init 9 = .ok (.invokespecial 11, 3) := by decide +kernel
theorem dX0_init_12 : decode cX0_init 12 = .ok (.putfield 12, 3) := by decide +kernel
theorem dX0_init_15 : decode cX0_init 15 = .ok (.aload_n 0, 1) := by decide +kernel
theorem dX0_init_16 : decode cX0_init 16 = .ok (.bipush 8, 2) := by decide +kernel
theorem dX0_init_18 : decode cX0_init 18 = .ok (.newarray .int, 2) := by decide +kernel
theorem dX0_init_20 : decode cX0_init 20 = .ok (.putfield 18, 3) := by decide +kernel
theorem dX0_init_23 : decode cX0_init 23 = .ok (.aload_n 0, 1) := by decide +kernel
theorem dX0_init_24 : decode cX0_init 24 = .ok (.iconst (-1), 1) := by decide +kernel
theorem dX0_init_25 : decode cX0_init 25 = .ok (.putfield 22, 3) := by decide +kernel
theorem dX0_init_28 : decode cX0_init 28 = .ok (.aload_n 0, 1) := by decide +kernel
theorem dX0_init_29 : decode cX0_init 29 = .ok (.iconst (-1), 1) := by decide +kernel
theorem dX0_init_30 : decode cX0_init 30 = .ok (.putfield 26, 3) := by decide +kernel
theorem dX0_init_33 : decode cX0_init 33 = .ok (.return_, 1) := by decide +kernel
theorem dX0_plan_0 : decode cX0_plan 0 = .ok (.aload_n 0, 1) := by decide +kernel
theorem dX0_plan_1 : decode cX0_plan 1 = .ok (.iload_n 1, 1) := by decide +kernel
theorem dX0_plan_2 : decode cX0_plan 2 = .ok (.putfield 26, 3) := by decide +kernel
theorem dX0_plan_5 : decode cX0_plan 5 = .ok (.aload_n 0, 1) := by decide +kernel
theorem dX0_plan_6 : decode cX0_plan 6 = .ok (.iload_n 2, 1) := by decide +kernel
theorem dX0_plan_7 : decode cX0_plan 7 = .ok (.putfield 29, 3) := by decide +kernel
theorem dX0_plan_10 : decode cX0_plan 10 = .ok (.return_, 1) := by decide +kernel
theorem dX0_isWaiting_0 : decode cX0_isWaiting 0 = .ok (.aload_n 0, 1) := by decide +kernel
theorem dX0_isWaiting_1 : decode cX0_isWaiting 1 = .ok (.getfield 29, 3) := by decide +kernel
theorem dX0_isWaiting_4 : decode cX0_isWaiting 4 = .ok (.ifCond .le 15, 3) := by decide +kernel
theorem dX0_isWaiting_7 : decode cX0_isWaiting 7 = .ok (.aload_n 0, 1) := by decide +kernel
theorem dX0_isWaiting_8 : decode cX0_isWaiting 8 = .ok (.getfield 26, 3) := by decide +kernel
theorem dX0_isWaiting_11 : decode cX0_isWaiting 11 = .ok (.iload_n 1, 1) := by decide +kernel
theorem dX0_isWaiting_12 : decode cX0_isWaiting 12 = .ok (.if_icmp .gt 7, 3) := by decide +kernel
theorem dX0_isWaiting_15 : decode cX0_isWaiting 15 = .ok (.iconst 1, 1) := by decide +kernel
theorem dX0_isWaiting_16 : decode cX0_isWaiting 16 = .ok (.goto 4, 3) := by decide +kernel
theorem dX0_isWaiting_19 : decode cX0_isWaiting 19 = .ok (.iconst 0, 1) := by decide +kernel
theorem dX0_isWaiting_20 : decode cX0_isWaiting 20 = .ok (.ireturn, 1) := by decide +kernel
set_option maxRecDepth 20000 in
theorem ggX0_planBehind_X0_isWaiting : GoodIn wsX0_planBehind wsX0_isWaiting := goodIn_r _ [7, 2, 1, 8, 9, 10, 11, 12, 13, 14, 15] (by decide +kernel) (by decide +kernel)
set_option maxRecDepth 20000 in
theorem gX0_planBehind_X0_isWaiting : GoodIn wsX0_planBehind (wsV RX0 32 RX0 yX0_isWaiting wsX0_isWaiting) := goodIn_app (goodIn_of _ (by decide +kernel)) ggX0_planBehind_X0_isWaiting
theorem dX0_planBehind_0 : decode cX0_planBehind 0 = .ok (.aload_n 0, 1) := by decide +kernel
theorem dX0_planBehind_1 : decode cX0_planBehind 1 = .ok (.iload_n 1, 1) := by decide +kernel
theorem dX0_planBehind_2 : decode cX0_planBehind 2 = .ok (.invokevirtual 32, 3) := by decide +kernel
theorem dX0_planBehind_5 : decode cX0_planBehind 5 = .ok (.ifCond .eq 30, 3) := by decide +kernel
theorem dX0_planBehind_8 : decode cX0_planBehind 8 = .ok (.aload_n 0, 1) := by decide +kernel
theorem dX0_planBehind_9 : decode cX0_planBehind 9 = .ok (.dup, 1) := by decide +kernel
theorem dX0_planBehind_10 : decode cX0_planBehind 10 = .ok (.getfield 26, 3) := by decide +kernel
theorem dX0_planBehind_13 : decode cX0_planBehind 13 = .ok (.iload_n 1, 1) := by decide +kernel
theorem dX0_planBehind_14 : decode cX0_planBehind 14 = .ok (.aload_n 0, 1) := by decide +kernel
theorem dX0_planBehind_15 : decode cX0_planBehind 15 = .ok (.getfield 26, 3) := by decide +kernel
theorem dX0_planBehind_18 : decode cX0_planBehind 18 = .ok (.isub, 1) := by decide +kernel
theorem dX0_planBehind_19 : decode cX0_planBehind 19 = .ok (.aload_n 0, 1) := by decide +kernel
theorem dX0_planBehind_20 : decode cX0_planBehind 20 = .ok (.getfield 29, 3) := by decide +kernel
theorem dX0_planBehind_23 : decode cX0_planBehind 23 = .ok (.idiv, 1) := by decide +kernel
theorem dX0_planBehind_24 : decode cX0_planBehind 24 = .ok (.iconst 1, 1) := by decide +kernel
theorem dX0_planBehind_25 : decode cX0_planBehind 25 = .ok (.iadd, 1) := by decide +kernel
theorem dX0_planBehind_26 : decode cX0_planBehind 26 = .ok (.aload_n 0, 1) := by decide +kernel
theorem dX0_planBehind_27 : decode cX0_planBehind 27 = .ok (.getfield 29, 3) := by decide +kernel
theorem dX0_planBehind_30 : decode cX0_planBehind 30 = .ok (.imul, 1) := by decide +kernel
theorem dX0_planBehind_31 : decode cX0_planBehind 31 = .ok (.iadd, 1) := by decide +kernel
theorem dX0_planBehind_32 : decode cX0_planBehind 32 = .ok (.putfield 26, 3) := by decide +kernel
theorem dX0_planBehind_35 : decode cX0_planBehind 35 = .ok (.return_, 1) := by decide +kernel
theorem dX1_init_0 : decode cX1_init 0 = .ok (.aload_n 0, 1) := by decide +kernel
theorem dX1_init_1 : decode cX1_init 1 = .ok (.invokespecial 3, 3) := by decide +kernel
theorem dX1_init_4 : decode cX1_init 4 = .ok (.aload_n 0, 1) := by decide +kernel
theorem dX1_init_5 : decode cX1_init 5 = .ok (.bipush 8, 2) := by decide +kernel
theorem dX1_init_7 : decode cX1_init 7 = .ok (.newarray .int, 2) := by decide +kernel
theorem dX1_init_9 : decode cX1_init 9 = .ok (.putfield 9, 3) := by decide +kernel
theorem dX1_init_12 : decode cX1_init 12 = .ok (.aload_n 0, 1) := by decide +kernel
theorem dX1_init_13 : decode cX1_init 13 = .ok (.bipush 64, 2) := by decide +kernel
theorem dX1_init_15 : decode cX1_init 15 = .ok (.newarray .int, 2) := by decide +kernel
theorem dX1_init_17 : decode cX1_init 17 = .ok (.putfield 15, 3) := by decide +kernel
theorem dX1_init_20 : decode cX1_init 20 = .ok (.return_, 1) := by decide +kernel
set_option maxRecDepth 20000 in
theorem ggX1_compute_X2_count : GoodIn wsX1_compute wsX2_count := goodIn_r _ [8, 9, 42, 43] (by decide +kernel) (by decide +kernel)
set_option maxRecDepth 20000 in
theorem gX1_compute_X2_count : GoodIn wsX1_compute (wsV RX1 21 RX2 yX2_count wsX2_count) := goodIn_app (goodIn_of _ (by decide +kernel)) ggX1_compute_X2_count
set_option maxRecDepth 20000 in
theorem ggX1_compute_X1_paddedWord : GoodIn wsX1_compute wsX1_paddedWord := goodIn_r _ [13, 4, 5, 6, 7, 8, 9, 14, 15, 16, 17, 18, 42, 43] (by decide +kernel) (by decide +kernel)
set_option maxRecDepth 20000 in
theorem gX1_compute_X1_paddedWord : GoodIn wsX1_compute (va_wsS RX1 27 yX1_paddedWord wsX1_paddedWord) := goodIn_app (goodIn_of _ (by decide +kernel)) ggX1_compute_X1_paddedWord
set_option maxRecDepth 20000 in
theorem ggX1_compute_X1_widen : GoodIn wsX1_compute wsX1_widen := goodIn_r _ [22, 3, 23, 24, 12, 25, 26, 27, 28, 40, 41] (by decide +kernel) (by decide +kernel)
set_option maxRecDepth 20000 in
theorem gX1_compute_X1_widen : GoodIn wsX1_compute (wsV RX1 31 RX1 yX1_widen wsX1_widen) := goodIn_app (goodIn_of _ (by decide +kernel)) ggX1_compute_X1_widen
set_option maxRecDepth 20000 in
theorem ggX1_compute_X1_mix : GoodIn wsX1_compute wsX1_mix := goodIn_r _ [32, 1, 33, 3, 34, 35, 12, 36, 37, 38, 39, 40, 41] (by decide +kernel) (by decide +kernel)
set_option maxRecDepth 20000 in
theorem gX1_compute_X1_mix : GoodIn wsX1_compute (wsV RX1 34 RX1 yX1_mix wsX1_mix) := goodIn_app (goodIn_of _ (by decide +kernel)) ggX1_compute_X1_mix
theorem dX1_compute_0 : decode cX1_compute 0 = .ok (.iconst 0, 1) := by decide +kernel
theorem dX1_compute_1 : decode cX1_compute 1 = .ok (.istore_n 2, 1) := by decide +kernel
theorem dX1_compute_2 : decode cX1_compute 2 = .ok (.iload_n 2, 1) := by decide +kernel
theorem dX1_compute_3 : decode cX1_compute 3 = .ok (.bipush 8, 2) := by decide +kernel
theorem dX1_compute_5 : decode cX1_compute 5 = .ok (.if_icmp .ge 20, 3) := by decide +kernel
theorem dX1_compute_8 : decode cX1_compute 8 = .ok (.aload_n 0, 1) := by decide +kernel
theorem dX1_compute_9 : decode cX1_compute 9 = .ok (.getfield 9, 3) := by decide +kernel
theorem dX1_compute_12 : decode cX1_compute 12 = .ok (.iload_n 2, 1) := by decide +kernel
theorem dX1_compute_13 : decode cX1_compute 13 = .ok (.getstatic 18, 3) := by decide +kernel
theorem dX1_compute_16 : decode cX1_compute 16 = .ok (.iload_n 2, 1) := by decide +kernel
theorem dX1_compute_17 : decode cX1_compute 17 = .ok (.iaload, 1) := by decide +kernel
theorem dX1_compute_18 : decode cX1_compute 18 = .ok (.iastore, 1) := by decide +kernel
theorem dX1_compute_19 : decode cX1_compute 19 = .ok (.iinc 2 1, 3) := by decide +kernel
theorem dX1_compute_22 : decode cX1_compute 22 = .ok (.goto (-20), 3) := by decide +kernel
theorem dX1_compute_25 : decode cX1_compute 25 = .ok (.aload_n 1, 1) := by decide +kernel
theorem dX1_compute_26 : decode cX1_compute 26 = .ok (.invokevirtual 21, 3) := by decide +kernel
theorem dX1_compute_29 : decode cX1_compute 29 = .ok (.istore_n 2, 1) := by decide +kernel
theorem dX1_compute_30 : decode cX1_compute 30 = .ok (.iload_n 2, 1) := by decide +kernel
theorem dX1_compute_31 : decode cX1_compute 31 = .ok (.bipush 8, 2) := by decide +kernel
theorem dX1_compute_33 : decode cX1_compute 33 = .ok (.iadd, 1) := by decide +kernel
theorem dX1_compute_34 : decode cX1_compute 34 = .ok (.bipush 64, 2) := by decide +kernel
theorem dX1_compute_36 : decode cX1_compute 36 = .ok (.idiv, 1) := by decide +kernel
theorem dX1_compute_37 : decode cX1_compute 37 = .ok (.iconst 1, 1) := by decide +kernel
theorem dX1_compute_38 : decode cX1_compute 38 = .ok (.iadd, 1) := by decide +kernel
theorem dX1_compute_39 : decode cX1_compute 39 = .ok (.istore_n 3, 1) := by decide +kernel
theorem dX1_compute_40 : decode cX1_compute 40 = .ok (.iconst 0, 1) := by decide +kernel
theorem dX1_compute_41 : decode cX1_compute 41 = .ok (.istore 4, 2) := by decide +kernel
theorem dX1_compute_43 : decode cX1_compute 43 = .ok (.iload 4, 2) := by decide +kernel
theorem dX1_compute_45 : decode cX1_compute 45 = .ok (.iload_n 3, 1) := by decide +kernel
theorem dX1_compute_46 : decode cX1_compute 46 = .ok (.if_icmp .ge 73, 3) := by decide +kernel
theorem dX1_compute_49 : decode cX1_compute 49 = .ok (.iconst 0, 1) := by decide +kernel
theorem dX1_compute_50 : decode cX1_compute 50 = .ok (.istore 5, 2) := by decide +kernel
theorem dX1_compute_52 : decode cX1_compute 52 = .ok (.iload 5, 2) := by decide +kernel
theorem dX1_compute_54 : decode cX1_compute 54 = .ok (.bipush 16, 2) := by decide +kernel
theorem dX1_compute_56 : decode cX1_compute 56 = .ok (.if_icmp .ge 30, 3) := by decide +kernel
theorem dX1_compute_59 : decode cX1_compute 59 = .ok (.aload_n 0, 1) := by decide +kernel
theorem dX1_compute_60 : decode cX1_compute 60 = .ok (.getfield 15, 3) := by decide +kernel
theorem dX1_compute_63 : decode cX1_compute 63 = .ok (.iload 5, 2) := by decide +kernel
theorem dX1_compute_65 : decode cX1_compute 65 = .ok (.aload_n 1, 1) := by decide +kernel
theorem dX1_compute_66 : decode cX1_compute 66 = .ok (.iload 4, 2) := by decide +kernel
theorem dX1_compute_68 : decode cX1_compute 68 = .ok (.bipush 64, 2) := by decide +kernel
theorem dX1_compute_70 : decode cX1_compute 70 = .ok (.imul, 1) := by decide +kernel
theorem dX1_compute_71 : decode cX1_compute 71 = .ok (.iload 5, 2) := by decide +kernel
theorem dX1_compute_73 : decode cX1_compute 73 = .ok (.iconst 4, 1) := by decide +kernel
theorem dX1_compute_74 : decode cX1_compute 74 = .ok (.imul, 1) := by decide +kernel
theorem dX1_compute_75 : decode cX1_compute 75 = .ok (.iadd, 1) := by decide +kernel
theorem dX1_compute_76 : decode cX1_compute 76 = .ok (.invokestatic 27, 3) := by decide +kernel
theorem dX1_compute_79 : decode cX1_compute 79 = .ok (.iastore, 1) := by decide +kernel
theorem dX1_compute_80 : decode cX1_compute 80 = .ok (.iinc 5 1, 3) := by decide +kernel
theorem dX1_compute_83 : decode cX1_compute 83 = .ok (.goto (-31), 3) := by decide +kernel
theorem dX1_compute_86 : decode cX1_compute 86 = .ok (.iload 4, 2) := by decide +kernel
theorem dX1_compute_88 : decode cX1_compute 88 = .ok (.iload_n 3, 1) := by decide +kernel
theorem dX1_compute_89 : decode cX1_compute 89 = .ok (.iconst 1, 1) := by decide +kernel
theorem dX1_compute_90 : decode cX1_compute 90 = .ok (.isub, 1) := by decide +kernel
theorem dX1_compute_91 : decode cX1_compute 91 = .ok (.if_icmp .ne 14, 3) := by decide +kernel
theorem dX1_compute_94 : decode cX1_compute 94 = .ok (.aload_n 0, 1) := by decide +kernel
theorem dX1_compute_95 : decode cX1_compute 95 = .ok (.getfield 15, 3) := by decide +kernel
theorem dX1_compute_98 : decode cX1_compute 98 = .ok (.bipush 15, 2) := by decide +kernel
theorem dX1_compute_100 : decode cX1_compute 100 = .ok (.iload_n 2, 1) := by decide +kernel
theorem dX1_compute_101 : decode cX1_compute 101 = .ok (.bipush 8, 2) := by decide +kernel
theorem dX1_compute_103 : decode cX1_compute 103 = .ok (.imul, 1) := by decide +kernel
theorem dX1_compute_104 : decode cX1_compute 104 = .ok (.iastore, 1) := by decide +kernel
theorem dX1_compute_105 : decode cX1_compute 105 = .ok (.aload_n 0, 1) := by decide +kernel
theorem dX1_compute_106 : decode cX1_compute 106 = .ok (.invokevirtual 31, 3) := by decide +kernel
theorem dX1_compute_109 : decode cX1_compute 109 = .ok (.aload_n 0, 1) := by decide +kernel
theorem dX1_compute_110 : decode cX1_compute 110 = .ok (.invokevirtual 34, 3) := by decide +kernel
theorem dX1_compute_113 : decode cX1_compute 113 = .ok (.iinc 4 1, 3) := by decide +kernel
theorem dX1_compute_116 : decode cX1_compute 116 = .ok (.goto (-73), 3) := by decide +kernel
theorem dX1_compute_119 : decode cX1_compute 119 = .ok (.return_, 1) := by decide +kernel
theorem dX1_copyTo_0 : decode cX1_copyTo 0 = .ok (.iconst 0, 1) := by decide +kernel
theorem dX1_copyTo_1 : decode cX1_copyTo 1 = .ok (.istore_n 2, 1) := by decide +kernel
theorem dX1_copyTo_2 : decode cX1_copyTo 2 = .ok (.iload_n 2, 1) := by decide +kernel
theorem dX1_copyTo_3 : decode cX1_copyTo 3 = .ok (.bipush 8, 2) := by decide +kernel
theorem dX1_copyTo_5 : decode cX1_copyTo 5 = .ok (.if_icmp .ge 24, 3) := by decide +kernel
theorem dX1_copyTo_8 : decode cX1_copyTo 8 = .ok (.iload_n 2, 1) := by decide +kernel
theorem dX1_copyTo_9 : decode cX1_copyTo 9 = .ok (.aload_n 1, 1) := by decide +kernel
theorem dX1_copyTo_10 : decode cX1_copyTo 10 = .ok (.arraylength, 1) := by decide +kernel
theorem dX1_copyTo_11 : decode cX1_copyTo 11 = .ok (.if_icmp .ge 18, 3) := by decide +kernel
theorem dX1_copyTo_14 : decode cX1_copyTo 14 = .ok (.aload_n 1, 1) := by decide +kernel
theorem dX1_copyTo_15 : decode cX1_copyTo 15 = .ok (.iload_n 2, 1) := by decide +kernel
theorem dX1_copyTo_16 : decode cX1_copyTo 16 = .ok (.aload_n 0, 1) := by decide +kernel
theorem dX1_copyTo_17 : decode cX1_copyTo 17 = .ok (.getfield 9, 3) := by decide +kernel
theorem dX1_copyTo_20 : decode cX1_copyTo 20 = .ok (.iload_n 2, 1) := by decide +kernel
theorem dX1_copyTo_21 : decode cX1_copyTo 21 = .ok (.iaload, 1) := by decide +kernel
theorem dX1_copyTo_22 : decode cX1_copyTo 22 = .ok (.iastore, 1) := by decide +kernel
theorem dX1_copyTo_23 : decode cX1_copyTo 23 = .ok (.iinc 2 1, 3) := by decide +kernel
theorem dX1_copyTo_26 : decode cX1_copyTo 26 = .ok (.goto (-24), 3) := by decide +kernel
theorem dX1_copyTo_29 : decode cX1_copyTo 29 = .ok (.return_, 1) := by decide +kernel
theorem dX1_equalTo_0 : decode cX1_equalTo 0 = .ok (.iconst 0, 1) := by decide +kernel
theorem dX1_equalTo_1 : decode cX1_equalTo 1 = .ok (.istore_n 2, 1) := by decide +kernel
theorem dX1_equalTo_2 : decode cX1_equalTo 2 = .ok (.iload_n 2, 1) := by decide +kernel
theorem dX1_equalTo_3 : decode cX1_equalTo 3 = .ok (.bipush 8, 2) := by decide +kernel
theorem dX1_equalTo_5 : decode cX1_equalTo 5 = .ok (.if_icmp .ge 29, 3) := by decide +kernel
theorem dX1_equalTo_8 : decode cX1_equalTo 8 = .ok (.iload_n 2, 1) := by decide +kernel
theorem dX1_equalTo_9 : decode cX1_equalTo 9 = .ok (.aload_n 1, 1) := by decide +kernel
theorem dX1_equalTo_10 : decode cX1_equalTo 10 = .ok (.arraylength, 1) := by decide +kernel
theorem dX1_equalTo_11 : decode cX1_equalTo 11 = .ok (.if_icmp .ge 23, 3) := by decide +kernel
theorem dX1_equalTo_14 : decode cX1_equalTo 14 = .ok (.aload_n 1, 1) := by decide +kernel
theorem dX1_equalTo_15 : decode cX1_equalTo 15 = .ok (.iload_n 2, 1) := by decide +kernel
theorem dX1_equalTo_16 : decode cX1_equalTo 16 = .ok (.iaload, 1) := by decide +kernel
theorem dX1_equalTo_17 : decode cX1_equalTo 17 = .ok (.aload_n 0, 1) := by decide +kernel
theorem dX1_equalTo_18 : decode cX1_equalTo 18 = .ok (.getfield 9, 3) := by decide +kernel
theorem dX1_equalTo_21 : decode cX1_equalTo 21 = .ok (.iload_n 2, 1) := by decide +kernel
theorem dX1_equalTo_22 : decode cX1_equalTo 22 = .ok (.iaload, 1) := by decide +kernel
theorem dX1_equalTo_23 : decode cX1_equalTo 23 = .ok (.if_icmp .eq 5, 3) := by decide +kernel
theorem dX1_equalTo_26 : decode cX1_equalTo 26 = .ok (.iconst 0, 1) := by decide +kernel
theorem dX1_equalTo_27 : decode cX1_equalTo 27 = .ok (.ireturn, 1) := by decide +kernel
theorem dX1_equalTo_28 : decode cX1_equalTo 28 = .ok (.iinc 2 1, 3) := by decide +kernel
theorem dX1_equalTo_31 : decode cX1_equalTo 31 = .ok (.goto (-29), 3) := by decide +kernel
theorem dX1_equalTo_34 : decode cX1_equalTo 34 = .ok (.iconst 1, 1) := by decide +kernel
theorem dX1_equalTo_35 : decode cX1_equalTo 35 = .ok (.ireturn, 1) := by decide +kernel
set_option maxRecDepth 20000 in
theorem ggX1_paddedWord_X2_count : GoodIn wsX1_paddedWord wsX2_count := goodIn_r _ [5, 6, 12, 13] (by decide +kernel) (by decide +kernel)
set_option maxRecDepth 20000 in
theorem gX1_paddedWord_X2_count : GoodIn wsX1_paddedWord (wsV RX1 21 RX2 yX2_count wsX2_count) := goodIn_app (goodIn_of _ (by decide +kernel)) ggX1_paddedWord_X2_count
set_option maxRecDepth 20000 in
theorem ggX1_paddedWord_X2_value : GoodIn wsX1_paddedWord wsX2_value := goodIn_r _ [10, 6, 11, 12, 13] (by decide +kernel) (by decide +kernel)
set_option maxRecDepth 20000 in
theorem gX1_paddedWord_X2_value : GoodIn wsX1_paddedWord (wsV RX1 37 RX2 yX2_value wsX2_value) := goodIn_app (goodIn_of _ (by decide +kernel)) ggX1_paddedWord_X2_value
theorem dX1_paddedWord_0 : decode cX1_paddedWord 0 = .ok (.aload_n 0, 1) := by decide +kernel
theorem dX1_paddedWord_1 : decode cX1_paddedWord 1 = .ok (.invokevirtual 21, 3) := by decide +kernel
theorem dX1_paddedWord_4 : decode cX1_paddedWord 4 = .ok (.istore_n 2, 1) := by decide +kernel
theorem dX1_paddedWord_5 : decode cX1_paddedWord 5 = .ok (.iconst 0, 1) := by decide +kernel
theorem dX1_paddedWord_6 : decode cX1_paddedWord 6 = .ok (.istore_n 3, 1) := by decide +kernel
theorem dX1_paddedWord_7 : decode cX1_paddedWord 7 = .ok (.iconst 0, 1) := by decide +kernel
theorem dX1_paddedWord_8 : decode cX1_paddedWord 8 = .ok (.istore 4, 2) := by decide +kernel
theorem dX1_paddedWord_10 : decode cX1_paddedWord 10 = .ok (.iload 4, 2) := by decide +kernel
theorem dX1_paddedWord_12 : decode cX1_paddedWord 12 = .ok (.iconst 4, 1) := by decide +kernel
theorem dX1_paddedWord_13 : decode cX1_paddedWord 13 = .ok (.if_icmp .ge 39, 3) := by decide +kernel
theorem dX1_paddedWord_16 : decode cX1_paddedWord 16 = .ok (.iload_n 1, 1) := by decide +kernel
theorem dX1_paddedWord_17 : decode cX1_paddedWord 17 = .ok (.iload 4, 2) := by decide +kernel
theorem dX1_paddedWord_19 : decode cX1_paddedWord 19 = .ok (.iadd, 1) := by decide +kernel
theorem dX1_paddedWord_20 : decode cX1_paddedWord 20 = .ok (.istore 5, 2) := by decide +kernel
theorem dX1_paddedWord_22 : decode cX1_paddedWord 22 = .ok (.iload_n 3, 1) := by decide +kernel
theorem dX1_paddedWord_23 : decode cX1_paddedWord 23 = .ok (.bipush 8, 2) := by decide +kernel
theorem dX1_paddedWord_25 : decode cX1_paddedWord 25 = .ok (.ishl, 1) := by decide +kernel
theorem dX1_paddedWord_26 : decode cX1_paddedWord 26 = .ok (.iload 5, 2) := by decide +kernel
theorem dX1_paddedWord_28 : decode cX1_paddedWord 28 = .ok (.iload_n 2, 1) := by decide +kernel
theorem dX1_paddedWord_29 : decode cX1_paddedWord 29 = .ok (.if_icmp .ne 9, 3) := by decide +kernel
theorem dX1_paddedWord_32 : decode cX1_paddedWord 32 = .ok (.sipush 128, 3) := by decide +kernel
theorem dX1_paddedWord_35 : decode cX1_paddedWord 35 = .ok (.goto 9, 3) := by decide +kernel
theorem dX1_paddedWord_38 : decode cX1_paddedWord 38 = .ok (.aload_n 0, 1) := by decide +kernel
theorem dX1_paddedWord_39 : decode cX1_paddedWord 39 = .ok (.iload 5, 2) := by decide +kernel
theorem dX1_paddedWord_41 : decode cX1_paddedWord 41 = .ok (.invokevirtual 37, 3) := by decide +kernel
theorem dX1_paddedWord_44 : decode cX1_paddedWord 44 = .ok (.ior, 1) := by decide +kernel
theorem dX1_paddedWord_45 : decode cX1_paddedWord 45 = .ok (.istore_n 3, 1) := by decide +kernel
theorem dX1_paddedWord_46 : decode cX1_paddedWord 46 = .ok (.iinc 4 1, 3) := by decide +kernel
theorem dX1_paddedWord_49 : decode cX1_paddedWord 49 = .ok (.goto (-39), 3) := by decide +kernel
theorem dX1_paddedWord_52 : decode cX1_paddedWord 52 = .ok (.iload_n 3, 1) := by decide +kernel
theorem dX1_paddedWord_53 : decode cX1_paddedWord 53 = .ok (.ireturn, 1) := by decide +kernel
set_option maxRecDepth 20000 in
theorem ggX1_widen_X1_smallSigma0 : GoodIn wsX1_widen wsX1_smallSigma0 := goodIn_r _ [5] (by decide +kernel) (by decide +kernel)
set_option maxRecDepth 20000 in
theorem gX1_widen_X1_smallSigma0 : GoodIn wsX1_widen (va_wsS RX1 41 yX1_smallSigma0 wsX1_smallSigma0) := goodIn_app (goodIn_of _ (by decide +kernel)) ggX1_widen_X1_smallSigma0
set_option maxRecDepth 20000 in
theorem ggX1_widen_X1_smallSigma1 : GoodIn wsX1_widen wsX1_smallSigma1 := goodIn_r _ [8] (by decide +kernel) (by decide +kernel)
set_option maxRecDepth 20000 in
theorem gX1_widen_X1_smallSigma1 : GoodIn wsX1_widen (va_wsS RX1 44 yX1_smallSigma1 wsX1_smallSigma1) := goodIn_app (goodIn_of _ (by decide +kernel)) ggX1_widen_X1_smallSigma1
theorem dX1_widen_0 : decode cX1_widen 0 = .ok (.bipush 16, 2) := by decide +kernel
theorem dX1_widen_2 : decode cX1_widen 2 = .ok (.istore_n 1, 1) := by decide +kernel
theorem dX1_widen_3 : decode cX1_widen 3 = .ok (.iload_n 1, 1) := by decide +kernel
theorem dX1_widen_4 : decode cX1_widen 4 = .ok (.bipush 64, 2) := by decide +kernel
theorem dX1_widen_6 : decode cX1_widen 6 = .ok (.if_icmp .ge 59, 3) := by decide +kernel
theorem dX1_widen_9 : decode cX1_widen 9 = .ok (.aload_n 0, 1) := by decide +kernel
theorem dX1_widen_10 : decode cX1_widen 10 = .ok (.getfield 15, 3) := by decide +kernel
theorem dX1_widen_13 : decode cX1_widen 13 = .ok (.iload_n 1, 1) := by decide +kernel
theorem dX1_widen_14 : decode cX1_widen 14 = .ok (.aload_n 0, 1) := by decide +kernel
theorem dX1_widen_15 : decode cX1_widen 15 = .ok (.getfield 15, 3) := by decide +kernel
theorem dX1_widen_18 : decode cX1_widen 18 = .ok (.iload_n 1, 1) := by decide +kernel
theorem dX1_widen_19 : decode cX1_widen 19 = .ok (.bipush 16, 2) := by decide +kernel
theorem dX1_widen_21 : decode cX1_widen 21 = .ok (.isub, 1) := by decide +kernel
theorem dX1_widen_22 : decode cX1_widen 22 = .ok (.iaload, 1) := by decide +kernel
theorem dX1_widen_23 : decode cX1_widen 23 = .ok (.aload_n 0, 1) := by decide +kernel
theorem dX1_widen_24 : decode cX1_widen 24 = .ok (.getfield 15, 3) := by decide +kernel
theorem dX1_widen_27 : decode cX1_widen 27 = .ok (.iload_n 1, 1) := by decide +kernel
theorem dX1_widen_28 : decode cX1_widen 28 = .ok (.bipush 15, 2) := by decide +kernel
theorem dX1_widen_30 : decode cX1_widen 30 = .ok (.isub, 1) := by decide +kernel
theorem dX1_widen_31 : decode cX1_widen 31 = .ok (.iaload, 1) := by decide +kernel
theorem dX1_widen_32 : decode cX1_widen 32 = .ok (.invokestatic 41, 3) := by decide +kernel
theorem dX1_widen_35 : decode cX1_widen 35 = .ok (.iadd, 1) := by decide +kernel
theorem dX1_widen_36 : decode cX1_widen 36 = .ok (.aload_n 0, 1) := by decide +kernel
theorem dX1_widen_37 : decode cX1_widen 37 = .ok (.getfield 15, 3) := by decide +kernel
theorem dX1_widen_40 : decode cX1_widen 40 = .ok (.iload_n 1, 1) := by decide +kernel
theorem dX1_widen_41 : decode cX1_widen 41 = .ok (.bipush 7, 2) := by decide +kernel
theorem dX1_widen_43 : decode cX1_widen 43 = .ok (.isub, 1) := by decide +kernel
theorem dX1_widen_44 : decode cX1_widen 44 = .ok (.iaload, 1) := by decide +kernel
theorem dX1_widen_45 : decode cX1_widen 45 = .ok (.iadd, 1) := by decide +kernel
theorem dX1_widen_46 : decode cX1_widen 46 = .ok (.aload_n 0, 1) := by decide +kernel
theorem dX1_widen_47 : decode cX1_widen 47 = .ok (.getfield 15, 3) := by decide +kernel
theorem dX1_widen_50 : decode cX1_widen 50 = .ok (.iload_n 1, 1) := by decide +kernel
theorem dX1_widen_51 : decode cX1_widen 51 = .ok (.iconst 2, 1) := by decide +kernel
theorem dX1_widen_52 : decode cX1_widen 52 = .ok (.isub, 1) := by decide +kernel
theorem dX1_widen_53 : decode cX1_widen 53 = .ok (.iaload, 1) := by decide +kernel
theorem dX1_widen_54 : decode cX1_widen 54 = .ok (.invokestatic 44, 3) := by decide +kernel
theorem dX1_widen_57 : decode cX1_widen 57 = .ok (.iadd, 1) := by decide +kernel
theorem dX1_widen_58 : decode cX1_widen 58 = .ok (.iastore, 1) := by decide +kernel
theorem dX1_widen_59 : decode cX1_widen 59 = .ok (.iinc 1 1, 3) := by decide +kernel
theorem dX1_widen_62 : decode cX1_widen 62 = .ok (.goto (-59), 3) := by decide +kernel
theorem dX1_widen_65 : decode cX1_widen 65 = .ok (.return_, 1) := by decide +kernel
set_option maxRecDepth 20000 in
theorem ggX1_mix_X1_bigSigma1 : GoodIn wsX1_mix wsX1_bigSigma1 := goodIn_r _ [7] (by decide +kernel) (by decide +kernel)
set_option maxRecDepth 20000 in
theorem gX1_mix_X1_bigSigma1 : GoodIn wsX1_mix (va_wsS RX1 47 yX1_bigSigma1 wsX1_bigSigma1) := goodIn_app (goodIn_of _ (by decide +kernel)) ggX1_mix_X1_bigSigma1
set_option maxRecDepth 20000 in
theorem ggX1_mix_X1_bigSigma0 : GoodIn wsX1_mix wsX1_bigSigma0 := goodIn_r _ [10] (by decide +kernel) (by decide +kernel)
set_option maxRecDepth 20000 in
theorem gX1_mix_X1_bigSigma0 : GoodIn wsX1_mix (va_wsS RX1 53 yX1_bigSigma0 wsX1_bigSigma0) := goodIn_app (goodIn_of _ (by decide +kernel)) ggX1_mix_X1_bigSigma0
theorem dX1_mix_0 : decode cX1_mix 0 = .ok (.aload_n 0, 1) := by decide +kernel
theorem dX1_mix_1 : decode cX1_mix 1 = .ok (.getfield 9, 3) := by decide +kernel
theorem dX1_mix_4 : decode cX1_mix 4 = .ok (.iconst 0, 1) := by decide +kernel
theorem dX1_mix_5 : decode cX1_mix 5 = .ok (.iaload, 1) := by decide +kernel
theorem dX1_mix_6 : decode cX1_mix 6 = .ok (.istore_n 1, 1) := by decide +kernel
theorem dX1_mix_7 : decode cX1_mix 7 = .ok (.aload_n 0, 1) := by decide +kernel
theorem dX1_mix_8 : decode cX1_mix 8 = .ok (.getfield 9, 3) := by decide +kernel
theorem dX1_mix_11 : decode cX1_mix 11 = .ok (.iconst 1, 1) := by decide +kernel
theorem dX1_mix_12 : decode cX1_mix 12 = .ok (.iaload, 1) := by decide +kernel
theorem dX1_mix_13 : decode cX1_mix 13 = .ok (.istore_n 2, 1) := by decide +kernel
theorem dX1_mix_14 : decode cX1_mix 14 = .ok (.aload_n 0, 1) := by decide +kernel
theorem dX1_mix_15 : decode cX1_mix 15 = .ok (.getfield 9, 3) := by decide +kernel
theorem dX1_mix_18 : decode cX1_mix 18 = .ok (.iconst 2, 1) := by decide +kernel
theorem dX1_mix_19 : decode cX1_mix 19 = .ok (.iaload, 1) := by decide +kernel
theorem dX1_mix_20 : decode cX1_mix 20 = .ok (.istore_n 3, 1) := by decide +kernel
theorem dX1_mix_21 : decode cX1_mix 21 = .ok (.aload_n 0, 1) := by decide +kernel
theorem dX1_mix_22 : decode cX1_mix 22 = .ok (.getfield 9, 3) := by decide +kernel
theorem dX1_mix_25 : decode cX1_mix 25 = .ok (.iconst 3, 1) := by decide +kernel
theorem dX1_mix_26 : decode cX1_mix 26 = .ok (.iaload, 1) := by decide +kernel
theorem dX1_mix_27 : decode cX1_mix 27 = .ok (.istore 4, 2) := by decide +kernel
theorem dX1_mix_29 : decode cX1_mix 29 = .ok (.aload_n 0, 1) := by decide +kernel
theorem dX1_mix_30 : decode cX1_mix 30 = .ok (.getfield 9, 3) := by decide +kernel
theorem dX1_mix_33 : decode cX1_mix 33 = .ok (.iconst 4, 1) := by decide +kernel
theorem dX1_mix_34 : decode cX1_mix 34 = .ok (.iaload, 1) := by decide +kernel
theorem dX1_mix_35 : decode cX1_mix 35 = .ok (.istore 5, 2) := by decide +kernel
theorem dX1_mix_37 : decode cX1_mix 37 = .ok (.aload_n 0, 1) := by decide +kernel
theorem dX1_mix_38 : decode cX1_mix 38 = .ok (.getfield 9, 3) := by decide +kernel
theorem dX1_mix_41 : decode cX1_mix 41 = .ok (.iconst 5, 1) := by decide +kernel
theorem dX1_mix_42 : decode cX1_mix 42 = .ok (.iaload, 1) := by decide +kernel
theorem dX1_mix_43 : decode cX1_mix 43 = .ok (.istore 6, 2) := by decide +kernel
theorem dX1_mix_45 : decode cX1_mix 45 = .ok (.aload_n 0, 1) := by decide +kernel
theorem dX1_mix_46 : decode cX1_mix 46 = .ok (.getfield 9, 3) := by decide +kernel
theorem dX1_mix_49 : decode cX1_mix 49 = .ok (.bipush 6, 2) := by decide +kernel
theorem dX1_mix_51 : decode cX1_mix 51 = .ok (.iaload, 1) := by decide +kernel
theorem dX1_mix_52 : decode cX1_mix 52 = .ok (.istore 7, 2) := by decide +kernel
theorem dX1_mix_54 : decode cX1_mix 54 = .ok (.aload_n 0, 1) := by decide +kernel
theorem dX1_mix_55 : decode cX1_mix 55 = .ok (.getfield 9, 3) := by decide +kernel
theorem dX1_mix_58 : decode cX1_mix 58 = .ok (.bipush 7, 2) := by decide +kernel
theorem dX1_mix_60 : decode cX1_mix 60 = .ok (.iaload, 1) := by decide +kernel
theorem dX1_mix_61 : decode cX1_mix 61 = .ok (.istore 8, 2) := by decide +kernel
theorem dX1_mix_63 : decode cX1_mix 63 = .ok (.iconst 0, 1) := by decide +kernel
theorem dX1_mix_64 : decode cX1_mix 64 = .ok (.istore 9, 2) := by decide +kernel
theorem dX1_mix_66 : decode cX1_mix 66 = .ok (.iload 9, 2) := by decide +kernel
theorem dX1_mix_68 : decode cX1_mix 68 = .ok (.bipush 64, 2) := by decide +kernel
theorem dX1_mix_70 : decode cX1_mix 70 = .ok (.if_icmp .ge 98, 3) := by decide +kernel
theorem dX1_mix_73 : decode cX1_mix 73 = .ok (.iload 8, 2) := by decide +kernel
theorem dX1_mix_75 : decode cX1_mix 75 = .ok (.iload 5, 2) := by decide +kernel
theorem dX1_mix_77 : decode cX1_mix 77 = .ok (.invokestatic 47, 3) := by decide +kernel
theorem dX1_mix_80 : decode cX1_mix 80 = .ok (.iadd, 1) := by decide +kernel
theorem dX1_mix_81 : decode cX1_mix 81 = .ok (.iload 5, 2) := by decide +kernel
theorem dX1_mix_83 : decode cX1_mix 83 = .ok (.iload 6, 2) := by decide +kernel
theorem dX1_mix_85 : decode cX1_mix 85 = .ok (.iand, 1) := by decide +kernel
theorem dX1_mix_86 : decode cX1_mix 86 = .ok (.iload 5, 2) := by decide +kernel
theorem dX1_mix_88 : decode cX1_mix 88 = .ok (.iconst (-1), 1) := by decide +kernel
theorem dX1_mix_89 : decode cX1_mix 89 = .ok (.ixor, 1) := by decide +kernel
theorem dX1_mix_90 : decode cX1_mix 90 = .ok (.iload 7, 2) := by decide +kernel
theorem dX1_mix_92 : decode cX1_mix 92 = .ok (.iand, 1) := by decide +kernel
theorem dX1_mix_93 : decode cX1_mix 93 = .ok (.ixor, 1) := by decide +kernel
theorem dX1_mix_94 : decode cX1_mix 94 = .ok (.iadd, 1) := by decide +kernel
theorem dX1_mix_95 : decode cX1_mix 95 = .ok (.getstatic 50, 3) := by decide +kernel
theorem dX1_mix_98 : decode cX1_mix 98 = .ok (.iload 9, 2) := by decide +kernel
theorem dX1_mix_100 : decode cX1_mix 100 = .ok (.iaload, 1) := by decide +kernel
theorem dX1_mix_101 : decode cX1_mix 101 = .ok (.iadd, 1) := by decide +kernel
theorem dX1_mix_102 : decode cX1_mix 102 = .ok (.aload_n 0, 1) := by decide +kernel
theorem dX1_mix_103 : decode cX1_mix 103 = .ok (.getfield 15, 3) := by decide +kernel
theorem dX1_mix_106 : decode cX1_mix 106 = .ok (.iload 9, 2) := by decide +kernel
theorem dX1_mix_108 : decode cX1_mix 108 = .ok (.iaload, 1) := by decide +kernel
theorem dX1_mix_109 : decode cX1_mix 109 = .ok (.iadd, 1) := by decide +kernel
theorem dX1_mix_110 : decode cX1_mix 110 = .ok (.istore 10, 2) := by decide +kernel
theorem dX1_mix_112 : decode cX1_mix 112 = .ok (.iload_n 1, 1) := by decide +kernel
theorem dX1_mix_113 : decode cX1_mix 113 = .ok (.invokestatic 53, 3) := by decide +kernel
theorem dX1_mix_116 : decode cX1_mix 116 = .ok (.iload_n 1, 1) := by decide +kernel
theorem dX1_mix_117 : decode cX1_mix 117 = .ok (.iload_n 2, 1) := by decide +kernel
theorem dX1_mix_118 : decode cX1_mix 118 = .ok (.iand, 1) := by decide +kernel
theorem dX1_mix_119 : decode cX1_mix 119 = .ok (.iload_n 1, 1) := by decide +kernel
theorem dX1_mix_120 : decode cX1_mix 120 = .ok (.iload_n 3, 1) := by decide +kernel
theorem dX1_mix_121 : decode cX1_mix 121 = .ok (.iand, 1) := by decide +kernel
theorem dX1_mix_122 : decode cX1_mix 122 = .ok (.ixor, 1) := by decide +kernel
theorem dX1_mix_123 : decode cX1_mix 123 = .ok (.iload_n 2, 1) := by decide +kernel
theorem dX1_mix_124 : decode cX1_mix 124 = .ok (.iload_n 3, 1) := by decide +kernel
theorem dX1_mix_125 : decode cX1_mix 125 = .ok (.iand, 1) := by decide +kernel
theorem dX1_mix_126 : decode cX1_mix 126 = .ok (.ixor, 1) := by decide +kernel
theorem dX1_mix_127 : decode cX1_mix 127 = .ok (.iadd, 1) := by decide +kernel
theorem dX1_mix_128 : decode cX1_mix 128 = .ok (.istore 11, 2) := by decide +kernel
theorem dX1_mix_130 : decode cX1_mix 130 = .ok (.iload 7, 2) := by decide +kernel
theorem dX1_mix_132 : decode cX1_mix 132 = .ok (.istore 8, 2) := by decide +kernel
theorem dX1_mix_134 : decode cX1_mix 134 = .ok (.iload 6, 2) := by decide +kernel
theorem dX1_mix_136 : decode cX1_mix 136 = .ok (.istore 7, 2) := by decide +kernel
theorem dX1_mix_138 : decode cX1_mix 138 = .ok (.iload 5, 2) := by decide +kernel
theorem dX1_mix_140 : decode cX1_mix 140 = .ok (.istore 6, 2) := by decide +kernel
theorem dX1_mix_142 : decode cX1_mix 142 = .ok (.iload 4, 2) := by decide +kernel
theorem dX1_mix_144 : decode cX1_mix 144 = .ok (.iload 10, 2) := by decide +kernel
theorem dX1_mix_146 : decode cX1_mix 146 = .ok (.iadd, 1) := by decide +kernel
theorem dX1_mix_147 : decode cX1_mix 147 = .ok (.istore 5, 2) := by decide +kernel
theorem dX1_mix_149 : decode cX1_mix 149 = .ok (.iload_n 3, 1) := by decide +kernel
theorem dX1_mix_150 : decode cX1_mix 150 = .ok (.istore 4, 2) := by decide +kernel
theorem dX1_mix_152 : decode cX1_mix 152 = .ok (.iload_n 2, 1) := by decide +kernel
theorem dX1_mix_153 : decode cX1_mix 153 = .ok (.istore_n 3, 1) := by decide +kernel
theorem dX1_mix_154 : decode cX1_mix 154 = .ok (.iload_n 1, 1) := by decide +kernel
theorem dX1_mix_155 : decode cX1_mix 155 = .ok (.istore_n 2, 1) := by decide +kernel
theorem dX1_mix_156 : decode cX1_mix 156 = .ok (.iload 10, 2) := by decide +kernel
theorem dX1_mix_158 : decode cX1_mix 158 = .ok (.iload 11, 2) := by decide +kernel
theorem dX1_mix_160 : decode cX1_mix 160 = .ok (.iadd, 1) := by decide +kernel
theorem dX1_mix_161 : decode cX1_mix 161 = .ok (.istore_n 1, 1) := by decide +kernel
theorem dX1_mix_162 : decode cX1_mix 162 = .ok (.iinc 9 1, 3) := by decide +kernel
theorem dX1_mix_165 : decode cX1_mix 165 = .ok (.goto (-99), 3) := by decide +kernel
theorem dX1_mix_168 : decode cX1_mix 168 = .ok (.aload_n 0, 1) := by decide +kernel
theorem dX1_mix_169 : decode cX1_mix 169 = .ok (.getfield 9, 3) := by decide +kernel
theorem dX1_mix_172 : decode cX1_mix 172 = .ok (.iconst 0, 1) := by decide +kernel
theorem dX1_mix_173 : decode cX1_mix 173 = .ok (.dup2, 1) := by decide +kernel
theorem dX1_mix_174 : decode cX1_mix 174 = .ok (.iaload, 1) := by decide +kernel
theorem dX1_mix_175 : decode cX1_mix 175 = .ok (.iload_n 1, 1) := by decide +kernel
theorem dX1_mix_176 : decode cX1_mix 176 = .ok (.iadd, 1) := by decide +kernel
theorem dX1_mix_177 : decode cX1_mix 177 = .ok (.iastore, 1) := by decide +kernel
theorem dX1_mix_178 : decode cX1_mix 178 = .ok (.aload_n 0, 1) := by decide +kernel
theorem dX1_mix_179 : decode cX1_mix 179 = .ok (.getfield 9, 3) := by decide +kernel
theorem dX1_mix_182 : decode cX1_mix 182 = .ok (.iconst 1, 1) := by decide +kernel
theorem dX1_mix_183 : decode cX1_mix 183 = .ok (.dup2, 1) := by decide +kernel
theorem dX1_mix_184 : decode cX1_mix 184 = .ok (.iaload, 1) := by decide +kernel
theorem dX1_mix_185 : decode cX1_mix 185 = .ok (.iload_n 2, 1) := by decide +kernel
theorem dX1_mix_186 : decode cX1_mix 186 = .ok (.iadd, 1) := by decide +kernel
theorem dX1_mix_187 : decode cX1_mix 187 = .ok (.iastore, 1) := by decide +kernel
theorem dX1_mix_188 : decode cX1_mix 188 = .ok (.aload_n 0, 1) := by decide +kernel
theorem dX1_mix_189 : decode cX1_mix 189 = .ok (.getfield 9, 3) := by decide +kernel
theorem dX1_mix_192 : decode cX1_mix 192 = .ok (.iconst 2, 1) := by decide +kernel
theorem dX1_mix_193 : decode cX1_mix 193 = .ok (.dup2, 1) := by decide +kernel
theorem dX1_mix_194 : decode cX1_mix 194 = .ok (.iaload, 1) := by decide +kernel
theorem dX1_mix_195 : decode cX1_mix 195 = .ok (.iload_n 3, 1) := by decide +kernel
theorem dX1_mix_196 : decode cX1_mix 196 = .ok (.iadd, 1) := by decide +kernel
theorem dX1_mix_197 : decode cX1_mix 197 = .ok (.iastore, 1) := by decide +kernel
theorem dX1_mix_198 : decode cX1_mix 198 = .ok (.aload_n 0, 1) := by decide +kernel
theorem dX1_mix_199 : decode cX1_mix 199 = .ok (.getfield 9, 3) := by decide +kernel
theorem dX1_mix_202 : decode cX1_mix 202 = .ok (.iconst 3, 1) := by decide +kernel
theorem dX1_mix_203 : decode cX1_mix 203 = .ok (.dup2, 1) := by decide +kernel
theorem dX1_mix_204 : decode cX1_mix 204 = .ok (.iaload, 1) := by decide +kernel
theorem dX1_mix_205 : decode cX1_mix 205 = .ok (.iload 4, 2) := by decide +kernel
theorem dX1_mix_207 : decode cX1_mix 207 = .ok (.iadd, 1) := by decide +kernel
theorem dX1_mix_208 : decode cX1_mix 208 = .ok (.iastore, 1) := by decide +kernel
theorem dX1_mix_209 : decode cX1_mix 209 = .ok (.aload_n 0, 1) := by decide +kernel
theorem dX1_mix_210 : decode cX1_mix 210 = .ok (.getfield 9, 3) := by decide +kernel
theorem dX1_mix_213 : decode cX1_mix 213 = .ok (.iconst 4, 1) := by decide +kernel
theorem dX1_mix_214 : decode cX1_mix 214 = .ok (.dup2, 1) := by decide +kernel
theorem dX1_mix_215 : decode cX1_mix 215 = .ok (.iaload, 1) := by decide +kernel
theorem dX1_mix_216 : decode cX1_mix 216 = .ok (.iload 5, 2) := by decide +kernel
theorem dX1_mix_218 : decode cX1_mix 218 = .ok (.iadd, 1) := by decide +kernel
theorem dX1_mix_219 : decode cX1_mix 219 = .ok (.iastore, 1) := by decide +kernel
theorem dX1_mix_220 : decode cX1_mix 220 = .ok (.aload_n 0, 1) := by decide +kernel
theorem dX1_mix_221 : decode cX1_mix 221 = .ok (.getfield 9, 3) := by decide +kernel
theorem dX1_mix_224 : decode cX1_mix 224 = .ok (.iconst 5, 1) := by decide +kernel
theorem dX1_mix_225 : decode cX1_mix 225 = .ok (.dup2, 1) := by decide +kernel
theorem dX1_mix_226 : decode cX1_mix 226 = .ok (.iaload, 1) := by decide +kernel
theorem dX1_mix_227 : decode cX1_mix 227 = .ok (.iload 6, 2) := by decide +kernel
theorem dX1_mix_229 : decode cX1_mix 229 = .ok (.iadd, 1) := by decide +kernel
theorem dX1_mix_230 : decode cX1_mix 230 = .ok (.iastore, 1) := by decide +kernel
theorem dX1_mix_231 : decode cX1_mix 231 = .ok (.aload_n 0, 1) := by decide +kernel
theorem dX1_mix_232 : decode cX1_mix 232 = .ok (.getfield 9, 3) := by decide +kernel
theorem dX1_mix_235 : decode cX1_mix 235 = .ok (.bipush 6, 2) := by decide +kernel
theorem dX1_mix_237 : decode cX1_mix 237 = .ok (.dup2, 1) := by decide +kernel
theorem dX1_mix_238 : decode cX1_mix 238 = .ok (.iaload, 1) := by decide +kernel
theorem dX1_mix_239 : decode cX1_mix 239 = .ok (.iload 7, 2) := by decide +kernel
theorem dX1_mix_241 : decode cX1_mix 241 = .ok (.iadd, 1) := by decide +kernel
theorem dX1_mix_242 : decode cX1_mix 242 = .ok (.iastore, 1) := by decide +kernel
theorem dX1_mix_243 : decode cX1_mix 243 = .ok (.aload_n 0, 1) := by decide +kernel
theorem dX1_mix_244 : decode cX1_mix 244 = .ok (.getfield 9, 3) := by decide +kernel
theorem dX1_mix_247 : decode cX1_mix 247 = .ok (.bipush 7, 2) := by decide +kernel
theorem dX1_mix_249 : decode cX1_mix 249 = .ok (.dup2, 1) := by decide +kernel
theorem dX1_mix_250 : decode cX1_mix 250 = .ok (.iaload, 1) := by decide +kernel
theorem dX1_mix_251 : decode cX1_mix 251 = .ok (.iload 8, 2) := by decide +kernel
theorem dX1_mix_253 : decode cX1_mix 253 = .ok (.iadd, 1) := by decide +kernel
theorem dX1_mix_254 : decode cX1_mix 254 = .ok (.iastore, 1) := by decide +kernel
theorem dX1_mix_255 : decode cX1_mix 255 = .ok (.return_, 1) := by decide +kernel
theorem dX1_smallSigma0_0 : decode cX1_smallSigma0 0 = .ok (.iload_n 0, 1) := by decide +kernel
theorem dX1_smallSigma0_1 : decode cX1_smallSigma0 1 = .ok (.bipush 7, 2) := by decide +kernel
theorem dX1_smallSigma0_3 : decode cX1_smallSigma0 3 = .ok (.iushr, 1) := by decide +kernel
theorem dX1_smallSigma0_4 : decode cX1_smallSigma0 4 = .ok (.iload_n 0, 1) := by decide +kernel
theorem dX1_smallSigma0_5 : decode cX1_smallSigma0 5 = .ok (.bipush 25, 2) := by decide +kernel
theorem dX1_smallSigma0_7 : decode cX1_smallSigma0 7 = .ok (.ishl, 1) := by decide +kernel
theorem dX1_smallSigma0_8 : decode cX1_smallSigma0 8 = .ok (.ior, 1) := by decide +kernel
theorem dX1_smallSigma0_9 : decode cX1_smallSigma0 9 = .ok (.iload_n 0, 1) := by decide +kernel
theorem dX1_smallSigma0_10 : decode cX1_smallSigma0 10 = .ok (.bipush 18, 2) := by decide +kernel
theorem dX1_smallSigma0_12 : decode cX1_smallSigma0 12 = .ok (.iushr, 1) := by decide +kernel
theorem dX1_smallSigma0_13 : decode cX1_smallSigma0 13 = .ok (.iload_n 0, 1) := by decide +kernel
theorem dX1_smallSigma0_14 : decode cX1_smallSigma0 14 = .ok (.bipush 14, 2) := by decide +kernel
theorem dX1_smallSigma0_16 : decode cX1_smallSigma0 16 = .ok (.ishl, 1) := by decide +kernel
theorem dX1_smallSigma0_17 : decode cX1_smallSigma0 17 = .ok (.ior, 1) := by decide +kernel
theorem dX1_smallSigma0_18 : decode cX1_smallSigma0 18 = .ok (.ixor, 1) := by decide +kernel
theorem dX1_smallSigma0_19 : decode cX1_smallSigma0 19 = .ok (.iload_n 0, 1) := by decide +kernel
theorem dX1_smallSigma0_20 : decode cX1_smallSigma0 20 = .ok (.iconst 3, 1) := by decide +kernel
theorem dX1_smallSigma0_21 : decode cX1_smallSigma0 21 = .ok (.iushr, 1) := by decide +kernel
theorem dX1_smallSigma0_22 : decode cX1_smallSigma0 22 = .ok (.ixor, 1) := by decide +kernel
theorem dX1_smallSigma0_23 : decode cX1_smallSigma0 23 = .ok (.ireturn, 1) := by decide +kernel
theorem dX1_smallSigma1_0 : decode cX1_smallSigma1 0 = .ok (.iload_n 0, 1) := by decide +kernel
theorem dX1_smallSigma1_1 : decode cX1_smallSigma1 1 = .ok (.bipush 17, 2) := by decide +kernel
theorem dX1_smallSigma1_3 : decode cX1_smallSigma1 3 = .ok (.iushr, 1) := by decide +kernel
theorem dX1_smallSigma1_4 : decode cX1_smallSigma1 4 = .ok (.iload_n 0, 1) := by decide +kernel
theorem dX1_smallSigma1_5 : decode cX1_smallSigma1 5 = .ok (.bipush 15, 2) := by decide +kernel
theorem dX1_smallSigma1_7 : decode cX1_smallSigma1 7 = .ok (.ishl, 1) := by decide +kernel
theorem dX1_smallSigma1_8 : decode cX1_smallSigma1 8 = .ok (.ior, 1) := by decide +kernel
theorem dX1_smallSigma1_9 : decode cX1_smallSigma1 9 = .ok (.iload_n 0, 1) := by decide +kernel
theorem dX1_smallSigma1_10 : decode cX1_smallSigma1 10 = .ok (.bipush 19, 2) := by decide +kernel
theorem dX1_smallSigma1_12 : decode cX1_smallSigma1 12 = .ok (.iushr, 1) := by decide +kernel
theorem dX1_smallSigma1_13 : decode cX1_smallSigma1 13 = .ok (.iload_n 0, 1) := by decide +kernel
theorem dX1_smallSigma1_14 : decode cX1_smallSigma1 14 = .ok (.bipush 13, 2) := by decide +kernel
theorem dX1_smallSigma1_16 : decode cX1_smallSigma1 16 = .ok (.ishl, 1) := by decide +kernel
theorem dX1_smallSigma1_17 : decode cX1_smallSigma1 17 = .ok (.ior, 1) := by decide +kernel
theorem dX1_smallSigma1_18 : decode cX1_smallSigma1 18 = .ok (.ixor, 1) := by decide +kernel
theorem dX1_smallSigma1_19 : decode cX1_smallSigma1 19 = .ok (.iload_n 0, 1) := by decide +kernel
theorem dX1_smallSigma1_20 : decode cX1_smallSigma1 20 = .ok (.bipush 10, 2) := by decide +kernel
theorem dX1_smallSigma1_22 : decode cX1_smallSigma1 22 = .ok (.iushr, 1) := by decide +kernel
theorem dX1_smallSigma1_23 : decode cX1_smallSigma1 23 = .ok (.ixor, 1) := by decide +kernel
theorem dX1_smallSigma1_24 : decode cX1_smallSigma1 24 = .ok (.ireturn, 1) := by decide +kernel
theorem dX1_bigSigma0_0 : decode cX1_bigSigma0 0 = .ok (.iload_n 0, 1) := by decide +kernel
theorem dX1_bigSigma0_1 : decode cX1_bigSigma0 1 = .ok (.iconst 2, 1) := by decide +kernel
theorem dX1_bigSigma0_2 : decode cX1_bigSigma0 2 = .ok (.iushr, 1) := by decide +kernel
theorem dX1_bigSigma0_3 : decode cX1_bigSigma0 3 = .ok (.iload_n 0, 1) := by decide +kernel
theorem dX1_bigSigma0_4 : decode cX1_bigSigma0 4 = .ok (.bipush 30, 2) := by decide +kernel
theorem dX1_bigSigma0_6 : decode cX1_bigSigma0 6 = .ok (.ishl, 1) := by decide +kernel
theorem dX1_bigSigma0_7 : decode cX1_bigSigma0 7 = .ok (.ior, 1) := by decide +kernel
theorem dX1_bigSigma0_8 : decode cX1_bigSigma0 8 = .ok (.iload_n 0, 1) := by decide +kernel
theorem dX1_bigSigma0_9 : decode cX1_bigSigma0 9 = .ok (.bipush 13, 2) := by decide +kernel
theorem dX1_bigSigma0_11 : decode cX1_bigSigma0 11 = .ok (.iushr, 1) := by decide +kernel
theorem dX1_bigSigma0_12 : decode cX1_bigSigma0 12 = .ok (.iload_n 0, 1) := by decide +kernel
theorem dX1_bigSigma0_13 : decode cX1_bigSigma0 13 = .ok (.bipush 19, 2) := by decide +kernel
theorem dX1_bigSigma0_15 : decode cX1_bigSigma0 15 = .ok (.ishl, 1) := by decide +kernel
theorem dX1_bigSigma0_16 : decode cX1_bigSigma0 16 = .ok (.ior, 1) := by decide +kernel
theorem dX1_bigSigma0_17 : decode cX1_bigSigma0 17 = .ok (.ixor, 1) := by decide +kernel
theorem dX1_bigSigma0_18 : decode cX1_bigSigma0 18 = .ok (.iload_n 0, 1) := by decide +kernel
theorem dX1_bigSigma0_19 : decode cX1_bigSigma0 19 = .ok (.bipush 22, 2) := by decide +kernel
theorem dX1_bigSigma0_21 : decode cX1_bigSigma0 21 = .ok (.iushr, 1) := by decide +kernel
theorem dX1_bigSigma0_22 : decode cX1_bigSigma0 22 = .ok (.iload_n 0, 1) := by decide +kernel
theorem dX1_bigSigma0_23 : decode cX1_bigSigma0 23 = .ok (.bipush 10, 2) := by decide +kernel
theorem dX1_bigSigma0_25 : decode cX1_bigSigma0 25 = .ok (.ishl, 1) := by decide +kernel
theorem dX1_bigSigma0_26 : decode cX1_bigSigma0 26 = .ok (.ior, 1) := by decide +kernel
theorem dX1_bigSigma0_27 : decode cX1_bigSigma0 27 = .ok (.ixor, 1) := by decide +kernel
theorem dX1_bigSigma0_28 : decode cX1_bigSigma0 28 = .ok (.ireturn, 1) := by decide +kernel
theorem dX1_bigSigma1_0 : decode cX1_bigSigma1 0 = .ok (.iload_n 0, 1) := by decide +kernel
theorem dX1_bigSigma1_1 : decode cX1_bigSigma1 1 = .ok (.bipush 6, 2) := by decide +kernel
theorem dX1_bigSigma1_3 : decode cX1_bigSigma1 3 = .ok (.iushr, 1) := by decide +kernel
theorem dX1_bigSigma1_4 : decode cX1_bigSigma1 4 = .ok (.iload_n 0, 1) := by decide +kernel
theorem dX1_bigSigma1_5 : decode cX1_bigSigma1 5 = .ok (.bipush 26, 2) := by decide +kernel
theorem dX1_bigSigma1_7 : decode cX1_bigSigma1 7 = .ok (.ishl, 1) := by decide +kernel
theorem dX1_bigSigma1_8 : decode cX1_bigSigma1 8 = .ok (.ior, 1) := by decide +kernel
theorem dX1_bigSigma1_9 : decode cX1_bigSigma1 9 = .ok (.iload_n 0, 1) := by decide +kernel
theorem dX1_bigSigma1_10 : decode cX1_bigSigma1 10 = .ok (.bipush 11, 2) := by decide +kernel
theorem dX1_bigSigma1_12 : decode cX1_bigSigma1 12 = .ok (.iushr, 1) := by decide +kernel
theorem dX1_bigSigma1_13 : decode cX1_bigSigma1 13 = .ok (.iload_n 0, 1) := by decide +kernel
theorem dX1_bigSigma1_14 : decode cX1_bigSigma1 14 = .ok (.bipush 21, 2) := by decide +kernel
theorem dX1_bigSigma1_16 : decode cX1_bigSigma1 16 = .ok (.ishl, 1) := by decide +kernel
theorem dX1_bigSigma1_17 : decode cX1_bigSigma1 17 = .ok (.ior, 1) := by decide +kernel
theorem dX1_bigSigma1_18 : decode cX1_bigSigma1 18 = .ok (.ixor, 1) := by decide +kernel
theorem dX1_bigSigma1_19 : decode cX1_bigSigma1 19 = .ok (.iload_n 0, 1) := by decide +kernel
theorem dX1_bigSigma1_20 : decode cX1_bigSigma1 20 = .ok (.bipush 25, 2) := by decide +kernel
theorem dX1_bigSigma1_22 : decode cX1_bigSigma1 22 = .ok (.iushr, 1) := by decide +kernel
theorem dX1_bigSigma1_23 : decode cX1_bigSigma1 23 = .ok (.iload_n 0, 1) := by decide +kernel
theorem dX1_bigSigma1_24 : decode cX1_bigSigma1 24 = .ok (.bipush 7, 2) := by decide +kernel
theorem dX1_bigSigma1_26 : decode cX1_bigSigma1 26 = .ok (.ishl, 1) := by decide +kernel
theorem dX1_bigSigma1_27 : decode cX1_bigSigma1 27 = .ok (.ior, 1) := by decide +kernel
theorem dX1_bigSigma1_28 : decode cX1_bigSigma1 28 = .ok (.ixor, 1) := by decide +kernel
theorem dX1_bigSigma1_29 : decode cX1_bigSigma1 29 = .ok (.ireturn, 1) := by decide +kernel
theorem dX2_init_0 : decode cX2_init 0 = .ok (.aload_n 0, 1) := by decide +kernel
theorem dX2_init_1 : decode cX2_init 1 = .ok (.invokespecial 3, 3) := by decide +kernel
theorem dX2_init_4 : decode cX2_init 4 = .ok (.aload_n 0, 1) := by decide +kernel
theorem dX2_init_5 : decode cX2_init 5 = .ok (.sipush 200, 3) := by decide +kernel
theorem dX2_init_8 : decode cX2_init 8 = .ok (.newarray .int, 2) := by decide +kernel
theorem dX2_init_10 : decode cX2_init 10 = .ok (.putfield 9, 3) := by decide +kernel
theorem dX2_init_13 : decode cX2_init 13 = .ok (.return_, 1) := by decide +kernel
theorem dX2_count_0 : decode cX2_count 0 = .ok (.aload_n 0, 1) := by decide +kernel
theorem dX2_count_1 : decode cX2_count 1 = .ok (.getfield 15, 3) := by decide +kernel
theorem dX2_count_4 : decode cX2_count 4 = .ok (.ireturn, 1) := by decide +kernel
theorem dX2_has_0 : decode cX2_has 0 = .ok (.iload_n 1, 1) := by decide +kernel
theorem dX2_has_1 : decode cX2_has 1 = .ok (.ifCond .lt 15, 3) := by decide +kernel
theorem dX2_has_4 : decode cX2_has 4 = .ok (.iload_n 1, 1) := by decide +kernel
theorem dX2_has_5 : decode cX2_has 5 = .ok (.aload_n 0, 1) := by decide +kernel
theorem dX2_has_6 : decode cX2_has 6 = .ok (.getfield 15, 3) := by decide +kernel
theorem dX2_has_9 : decode cX2_has 9 = .ok (.if_icmp .ge 7, 3) := by decide +kernel
theorem dX2_has_12 : decode cX2_has 12 = .ok (.iconst 1, 1) := by decide +kernel
theorem dX2_has_13 : decode cX2_has 13 = .ok (.goto 4, 3) := by decide +kernel
theorem dX2_has_16 : decode cX2_has 16 = .ok (.iconst 0, 1) := by decide +kernel
theorem dX2_has_17 : decode cX2_has 17 = .ok (.ireturn, 1) := by decide +kernel
theorem dX2_value_0 : decode cX2_value 0 = .ok (.iload_n 1, 1) := by decide +kernel
theorem dX2_value_1 : decode cX2_value 1 = .ok (.ifCond .lt 20, 3) := by decide +kernel
theorem dX2_value_4 : decode cX2_value 4 = .ok (.iload_n 1, 1) := by decide +kernel
theorem dX2_value_5 : decode cX2_value 5 = .ok (.aload_n 0, 1) := by decide +kernel
theorem dX2_value_6 : decode cX2_value 6 = .ok (.getfield 15, 3) := by decide +kernel
theorem dX2_value_9 : decode cX2_value 9 = .ok (.if_icmp .ge 12, 3) := by decide +kernel
theorem dX2_value_12 : decode cX2_value 12 = .ok (.aload_n 0, 1) := by decide +kernel
theorem dX2_value_13 : decode cX2_value 13 = .ok (.getfield 9, 3) := by decide +kernel
theorem dX2_value_16 : decode cX2_value 16 = .ok (.iload_n 1, 1) := by decide +kernel
theorem dX2_value_17 : decode cX2_value 17 = .ok (.iaload, 1) := by decide +kernel
theorem dX2_value_18 : decode cX2_value 18 = .ok (.goto 4, 3) := by decide +kernel
theorem dX2_value_21 : decode cX2_value 21 = .ok (.iconst 0, 1) := by decide +kernel
theorem dX2_value_22 : decode cX2_value 22 = .ok (.ireturn, 1) := by decide +kernel
theorem dX2_push_0 : decode cX2_push 0 = .ok (.aload_n 0, 1) := by decide +kernel
theorem dX2_push_1 : decode cX2_push 1 = .ok (.getfield 15, 3) := by decide +kernel
theorem dX2_push_4 : decode cX2_push 4 = .ok (.sipush 200, 3) := by decide +kernel
theorem dX2_push_7 : decode cX2_push 7 = .ok (.if_icmp .ge 27, 3) := by decide +kernel
theorem dX2_push_10 : decode cX2_push 10 = .ok (.aload_n 0, 1) := by decide +kernel
theorem dX2_push_11 : decode cX2_push 11 = .ok (.getfield 9, 3) := by decide +kernel
theorem dX2_push_14 : decode cX2_push 14 = .ok (.aload_n 0, 1) := by decide +kernel
theorem dX2_push_15 : decode cX2_push 15 = .ok (.getfield 15, 3) := by decide +kernel
theorem dX2_push_18 : decode cX2_push 18 = .ok (.iload_n 1, 1) := by decide +kernel
theorem dX2_push_19 : decode cX2_push 19 = .ok (.sipush 255, 3) := by decide +kernel
theorem dX2_push_22 : decode cX2_push 22 = .ok (.iand, 1) := by decide +kernel
theorem dX2_push_23 : decode cX2_push 23 = .ok (.iastore, 1) := by decide +kernel
theorem dX2_push_24 : decode cX2_push 24 = .ok (.aload_n 0, 1) := by decide +kernel
theorem dX2_push_25 : decode cX2_push 25 = .ok (.dup, 1) := by decide +kernel
theorem dX2_push_26 : decode cX2_push 26 = .ok (.getfield 15, 3) := by decide +kernel
theorem dX2_push_29 : decode cX2_push 29 = .ok (.iconst 1, 1) := by decide +kernel
theorem dX2_push_30 : decode cX2_push 30 = .ok (.iadd, 1) := by decide +kernel
theorem dX2_push_31 : decode cX2_push 31 = .ok (.putfield 15, 3) := by decide +kernel
theorem dX2_push_34 : decode cX2_push 34 = .ok (.return_, 1) := by decide +kernel
set_option maxRecDepth 20000 in
theorem ggX2_pushWord_X2_push : GoodIn wsX2_pushWord wsX2_push := goodIn_r _ [5, 6, 7, 8, 9] (by decide +kernel) (by decide +kernel)
set_option maxRecDepth 20000 in
theorem gX2_pushWord_X2_push : GoodIn wsX2_pushWord (wsV RX2 19 RX2 yX2_push wsX2_push) := goodIn_app (goodIn_of _ (by decide +kernel)) ggX2_pushWord_X2_push
theorem dX2_pushWord_0 : decode cX2_pushWord 0 = .ok (.bipush 24, 2) := by decide +kernel
theorem dX2_pushWord_2 : decode cX2_pushWord 2 = .ok (.istore_n 2, 1) := by decide +kernel
theorem dX2_pushWord_3 : decode cX2_pushWord 3 = .ok (.iload_n 2, 1) := by decide +kernel
theorem dX2_pushWord_4 : decode cX2_pushWord 4 = .ok (.ifCond .lt 16, 3) := by decide +kernel
theorem dX2_pushWord_7 : decode cX2_pushWord 7 = .ok (.aload_n 0, 1) := by decide +kernel
theorem dX2_pushWord_8 : decode cX2_pushWord 8 = .ok (.iload_n 1, 1) := by decide +kernel
theorem dX2_pushWord_9 : decode cX2_pushWord 9 = .ok (.iload_n 2, 1) := by decide +kernel
theorem dX2_pushWord_10 : decode cX2_pushWord 10 = .ok (.iushr, 1) := by decide +kernel
theorem dX2_pushWord_11 : decode cX2_pushWord 11 = .ok (.invokevirtual 19, 3) := by decide +kernel
theorem dX2_pushWord_14 : decode cX2_pushWord 14 = .ok (.iinc 2 (-8), 3) := by decide +kernel
theorem dX2_pushWord_17 : decode cX2_pushWord 17 = .ok (.goto (-14), 3) := by decide +kernel
theorem dX2_pushWord_20 : decode cX2_pushWord 20 = .ok (.return_, 1) := by decide +kernel
set_option maxRecDepth 20000 in
theorem ggX2_replace_X2_has : GoodIn wsX2_replace wsX2_has := goodIn_r _ [6, 7, 8, 9] (by decide +kernel) (by decide +kernel)
set_option maxRecDepth 20000 in
theorem gX2_replace_X2_has : GoodIn wsX2_replace (wsV RX2 23 RX2 yX2_has wsX2_has) := goodIn_app (goodIn_of _ (by decide +kernel)) ggX2_replace_X2_has
theorem dX2_replace_0 : decode cX2_replace 0 = .ok (.aload_n 0, 1) := by decide +kernel
theorem dX2_replace_1 : decode cX2_replace 1 = .ok (.iload_n 1, 1) := by decide +kernel
theorem dX2_replace_2 : decode cX2_replace 2 = .ok (.invokevirtual 23, 3) := by decide +kernel
theorem dX2_replace_5 : decode cX2_replace 5 = .ok (.ifCond .eq 14, 3) := by decide +kernel
theorem dX2_replace_8 : decode cX2_replace 8 = .ok (.aload_n 0, 1) := by decide +kernel
theorem dX2_replace_9 : decode cX2_replace 9 = .ok (.getfield 9, 3) := by decide +kernel
theorem dX2_replace_12 : decode cX2_replace 12 = .ok (.iload_n 1, 1) := by decide +kernel
theorem dX2_replace_13 : decode cX2_replace 13 = .ok (.iload_n 2, 1) := by decide +kernel
theorem dX2_replace_14 : decode cX2_replace 14 = .ok (.sipush 255, 3) := by decide +kernel
theorem dX2_replace_17 : decode cX2_replace 17 = .ok (.iand, 1) := by decide +kernel
theorem dX2_replace_18 : decode cX2_replace 18 = .ok (.iastore, 1) := by decide +kernel
theorem dX2_replace_19 : decode cX2_replace 19 = .ok (.return_, 1) := by decide +kernel
theorem dX2_shorten_0 : decode cX2_shorten 0 = .ok (.iload_n 1, 1) := by decide +kernel
theorem dX2_shorten_1 : decode cX2_shorten 1 = .ok (.ifCond .lt 16, 3) := by decide +kernel
theorem dX2_shorten_4 : decode cX2_shorten 4 = .ok (.iload_n 1, 1) := by decide +kernel
theorem dX2_shorten_5 : decode cX2_shorten 5 = .ok (.aload_n 0, 1) := by decide +kernel
theorem dX2_shorten_6 : decode cX2_shorten 6 = .ok (.getfield 15, 3) := by decide +kernel
theorem dX2_shorten_9 : decode cX2_shorten 9 = .ok (.if_icmp .ge 8, 3) := by decide +kernel
theorem dX2_shorten_12 : decode cX2_shorten 12 = .ok (.aload_n 0, 1) := by decide +kernel
theorem dX2_shorten_13 : decode cX2_shorten 13 = .ok (.iload_n 1, 1) := by decide +kernel
theorem dX2_shorten_14 : decode cX2_shorten 14 = .ok (.putfield 15, 3) := by decide +kernel
theorem dX2_shorten_17 : decode cX2_shorten 17 = .ok (.return_, 1) := by decide +kernel
theorem dX2_copyFrom_0 : decode cX2_copyFrom 0 = .ok (.aload_n 0, 1) := by decide +kernel
theorem dX2_copyFrom_1 : decode cX2_copyFrom 1 = .ok (.aload_n 1, 1) := by decide +kernel
theorem dX2_copyFrom_2 : decode cX2_copyFrom 2 = .ok (.getfield 15, 3) := by decide +kernel
theorem dX2_copyFrom_5 : decode cX2_copyFrom 5 = .ok (.putfield 15, 3) := by decide +kernel
theorem dX2_copyFrom_8 : decode cX2_copyFrom 8 = .ok (.iconst 0, 1) := by decide +kernel
theorem dX2_copyFrom_9 : decode cX2_copyFrom 9 = .ok (.istore_n 2, 1) := by decide +kernel
theorem dX2_copyFrom_10 : decode cX2_copyFrom 10 = .ok (.iload_n 2, 1) := by decide +kernel
theorem dX2_copyFrom_11 : decode cX2_copyFrom 11 = .ok (.aload_n 0, 1) := by decide +kernel
theorem dX2_copyFrom_12 : decode cX2_copyFrom 12 = .ok (.getfield 15, 3) := by decide +kernel
theorem dX2_copyFrom_15 : decode cX2_copyFrom 15 = .ok (.if_icmp .ge 21, 3) := by decide +kernel
theorem dX2_copyFrom_18 : decode cX2_copyFrom 18 = .ok (.aload_n 0, 1) := by decide +kernel
theorem dX2_copyFrom_19 : decode cX2_copyFrom 19 = .ok (.getfield 9, 3) := by decide +kernel
theorem dX2_copyFrom_22 : decode cX2_copyFrom 22 = .ok (.iload_n 2, 1) := by decide +kernel
theorem dX2_copyFrom_23 : decode cX2_copyFrom 23 = .ok (.aload_n 1, 1) := by decide +kernel
theorem dX2_copyFrom_24 : decode cX2_copyFrom 24 = .ok (.getfield 9, 3) := by decide +kernel
theorem dX2_copyFrom_27 : decode cX2_copyFrom 27 = .ok (.iload_n 2, 1) := by decide +kernel
theorem dX2_copyFrom_28 : decode cX2_copyFrom 28 = .ok (.iaload, 1) := by decide +kernel
theorem dX2_copyFrom_29 : decode cX2_copyFrom 29 = .ok (.iastore, 1) := by decide +kernel
theorem dX2_copyFrom_30 : decode cX2_copyFrom 30 = .ok (.iinc 2 1, 3) := by decide +kernel
theorem dX2_copyFrom_33 : decode cX2_copyFrom 33 = .ok (.goto (-23), 3) := by decide +kernel
theorem dX2_copyFrom_36 : decode cX2_copyFrom 36 = .ok (.return_, 1) := by decide +kernel
set_option maxRecDepth 20000 in
theorem ggX3_init_X1_init : GoodIn wsX3_init wsX1_init := goodIn_r _ [19, 20, 2, 3, 12, 21, 22, 27, 28] (by decide +kernel) (by decide +kernel)
set_option maxRecDepth 20000 in
theorem gX3_init_X1_init_n11 : GoodIn wsX3_init (wsX1_init) := ggX3_init_X1_init
set_option maxRecDepth 20000 in
theorem ggX3_init_X2_init : GoodIn wsX3_init wsX2_init := goodIn_r _ [24, 25, 2, 3, 12, 26, 36, 37] (by decide +kernel) (by decide +kernel)
set_option maxRecDepth 20000 in
theorem gX3_init_X2_init_n20 : GoodIn wsX3_init (wsX2_init) := ggX3_init_X2_init
theorem dX3_init_0 : decode cX3_init 0 = .ok (.aload_n 0, 1) := by decide +kernel
theorem dX3_init_1 : decode cX3_init 1 = .ok (.invokespecial 3, 3) := by decide +kernel
theorem dX3_init_4 : decode cX3_init 4 = .ok (.aload_n 0, 1) := by decide +kernel
theorem dX3_init_5 : decode cX3_init 5 = .ok (.new 9, 3) := by decide +kernel
theorem dX3_init_8 : decode cX3_init 8 = .ok (.dup, 1) := by decide +kernel
theorem dX3_init_9 : decode cX3_init 9 = .ok (.invokespecial 11, 3) := by decide +kernel
theorem dX3_init_12 : decode cX3_init 12 = .ok (.putfield 12, 3) := by decide +kernel
theorem dX3_init_15 : decode cX3_init 15 = .ok (.aload_n 0, 1) := by decide +kernel
theorem dX3_init_16 : decode cX3_init 16 = .ok (.new 18, 3) := by decide +kernel
theorem dX3_init_19 : decode cX3_init 19 = .ok (.dup, 1) := by decide +kernel
theorem dX3_init_20 : decode cX3_init 20 = .ok (.invokespecial 20, 3) := by decide +kernel
theorem dX3_init_23 : decode cX3_init 23 = .ok (.putfield 21, 3) := by decide +kernel
theorem dX3_init_26 : decode cX3_init 26 = .ok (.aload_n 0, 1) := by decide +kernel
theorem dX3_init_27 : decode cX3_init 27 = .ok (.sipush 200, 3) := by decide +kernel
theorem dX3_init_30 : decode cX3_init 30 = .ok (.newarray .int, 2) := by decide +kernel
theorem dX3_init_32 : decode cX3_init 32 = .ok (.putfield 25, 3) := by decide +kernel
theorem dX3_init_35 : decode cX3_init 35 = .ok (.aload_n 0, 1) := by decide +kernel
theorem dX3_init_36 : decode cX3_init 36 = .ok (.sipush 200, 3) := by decide +kernel
theorem dX3_init_39 : decode cX3_init 39 = .ok (.newarray .int, 2) := by decide +kernel
theorem dX3_init_41 : decode cX3_init 41 = .ok (.putfield 29, 3) := by decide +kernel
theorem dX3_init_44 : decode cX3_init 44 = .ok (.aload_n 0, 1) := by decide +kernel
theorem dX3_init_45 : decode cX3_init 45 = .ok (.sipush 200, 3) := by decide +kernel
theorem dX3_init_48 : decode cX3_init 48 = .ok (.newarray .int, 2) := by decide +kernel
theorem dX3_init_50 : decode cX3_init 50 = .ok (.putfield 32, 3) := by decide +kernel
theorem dX3_init_53 : decode cX3_init 53 = .ok (.aload_n 0, 1) := by decide +kernel
theorem dX3_init_54 : decode cX3_init 54 = .ok (.sipush 200, 3) := by decide +kernel
theorem dX3_init_57 : decode cX3_init 57 = .ok (.bipush 8, 2) := by decide +kernel
theorem dX3_init_59 : decode cX3_init 59 = .ok (.multianewarray 35 2, 4) := by decide +kernel
theorem dX3_init_63 : decode cX3_init 63 = .ok (.putfield 37, 3) := by decide +kernel
theorem dX3_init_66 : decode cX3_init 66 = .ok (.return_, 1) := by decide +kernel
theorem dX3_has_0 : decode cX3_has 0 = .ok (.iload_n 1, 1) := by decide +kernel
theorem dX3_has_1 : decode cX3_has 1 = .ok (.ifCond .lt 15, 3) := by decide +kernel
theorem dX3_has_4 : decode cX3_has 4 = .ok (.iload_n 1, 1) := by decide +kernel
theorem dX3_has_5 : decode cX3_has 5 = .ok (.aload_n 0, 1) := by decide +kernel
theorem dX3_has_6 : decode cX3_has 6 = .ok (.getfield 40, 3) := by decide +kernel
theorem dX3_has_9 : decode cX3_has 9 = .ok (.if_icmp .ge 7, 3) := by decide +kernel
theorem dX3_has_12 : decode cX3_has 12 = .ok (.iconst 1, 1) := by decide +kernel
theorem dX3_has_13 : decode cX3_has 13 = .ok (.goto 4, 3) := by decide +kernel
theorem dX3_has_16 : decode cX3_has 16 = .ok (.iconst 0, 1) := by decide +kernel
theorem dX3_has_17 : decode cX3_has 17 = .ok (.ireturn, 1) := by decide +kernel
set_option maxRecDepth 20000 in
theorem ggX3_kindOf_X3_has : GoodIn wsX3_kindOf wsX3_has := goodIn_r _ [6, 7, 8, 9, 10, 11, 12, 13, 14] (by decide +kernel) (by decide +kernel)
set_option maxRecDepth 20000 in
theorem gX3_kindOf_X3_has : GoodIn wsX3_kindOf (wsV RX3 44 RX3 yX3_has wsX3_has) := goodIn_app (goodIn_of _ (by decide +kernel)) ggX3_kindOf_X3_has
theorem dX3_kindOf_0 : decode cX3_kindOf 0 = .ok (.aload_n 0, 1) := by decide +kernel
theorem dX3_kindOf_1 : decode cX3_kindOf 1 = .ok (.iload_n 1, 1) := by decide +kernel
theorem dX3_kindOf_2 : decode cX3_kindOf 2 = .ok (.invokevirtual 44, 3) := by decide +kernel
theorem dX3_kindOf_5 : decode cX3_kindOf 5 = .ok (.ifCond .eq 12, 3) := by decide +kernel
theorem dX3_kindOf_8 : decode cX3_kindOf 8 = .ok (.aload_n 0, 1) := by decide +kernel
theorem dX3_kindOf_9 : decode cX3_kindOf 9 = .ok (.getfield 25, 3) := by decide +kernel
theorem dX3_kindOf_12 : decode cX3_kindOf 12 = .ok (.iload_n 1, 1) := by decide +kernel
theorem dX3_kindOf_13 : decode cX3_kindOf 13 = .ok (.iaload, 1) := by decide +kernel
theorem dX3_kindOf_14 : decode cX3_kindOf 14 = .ok (.goto 4, 3) := by decide +kernel
theorem dX3_kindOf_17 : decode cX3_kindOf 17 = .ok (.iconst (-1), 1) := by decide +kernel
theorem dX3_kindOf_18 : decode cX3_kindOf 18 = .ok (.ireturn, 1) := by decide +kernel
set_option maxRecDepth 20000 in
theorem ggX3_fileOf_X3_has : GoodIn wsX3_fileOf wsX3_has := goodIn_r _ [6, 7, 8, 9, 10, 11, 12, 13, 14] (by decide +kernel) (by decide +kernel)
set_option maxRecDepth 20000 in
theorem gX3_fileOf_X3_has : GoodIn wsX3_fileOf (wsV RX3 44 RX3 yX3_has wsX3_has) := goodIn_app (goodIn_of _ (by decide +kernel)) ggX3_fileOf_X3_has
theorem dX3_fileOf_0 : decode cX3_fileOf 0 = .ok (.aload_n 0, 1) := by decide +kernel
theorem dX3_fileOf_1 : decode cX3_fileOf 1 = .ok (.iload_n 1, 1) := by decide +kernel
theorem dX3_fileOf_2 : decode cX3_fileOf 2 = .ok (.invokevirtual 44, 3) := by decide +kernel
theorem dX3_fileOf_5 : decode cX3_fileOf 5 = .ok (.ifCond .eq 12, 3) := by decide +kernel
theorem dX3_fileOf_8 : decode cX3_fileOf 8 = .ok (.aload_n 0, 1) := by decide +kernel
theorem dX3_fileOf_9 : decode cX3_fileOf 9 = .ok (.getfield 29, 3) := by decide +kernel
theorem dX3_fileOf_12 : decode cX3_fileOf 12 = .ok (.iload_n 1, 1) := by decide +kernel
theorem dX3_fileOf_13 : decode cX3_fileOf 13 = .ok (.iaload, 1) := by decide +kernel
theorem dX3_fileOf_14 : decode cX3_fileOf 14 = .ok (.goto 4, 3) := by decide +kernel
theorem dX3_fileOf_17 : decode cX3_fileOf 17 = .ok (.iconst (-1), 1) := by decide +kernel
theorem dX3_fileOf_18 : decode cX3_fileOf 18 = .ok (.ireturn, 1) := by decide +kernel
set_option maxRecDepth 20000 in
theorem ggX3_dayOf_X3_has : GoodIn wsX3_dayOf wsX3_has := goodIn_r _ [6, 7, 8, 9, 10, 11, 12, 13, 14] (by decide +kernel) (by decide +kernel)
set_option maxRecDepth 20000 in
theorem gX3_dayOf_X3_has : GoodIn wsX3_dayOf (wsV RX3 44 RX3 yX3_has wsX3_has) := goodIn_app (goodIn_of _ (by decide +kernel)) ggX3_dayOf_X3_has
theorem dX3_dayOf_0 : decode cX3_dayOf 0 = .ok (.aload_n 0, 1) := by decide +kernel
theorem dX3_dayOf_1 : decode cX3_dayOf 1 = .ok (.iload_n 1, 1) := by decide +kernel
theorem dX3_dayOf_2 : decode cX3_dayOf 2 = .ok (.invokevirtual 44, 3) := by decide +kernel
theorem dX3_dayOf_5 : decode cX3_dayOf 5 = .ok (.ifCond .eq 12, 3) := by decide +kernel
theorem dX3_dayOf_8 : decode cX3_dayOf 8 = .ok (.aload_n 0, 1) := by decide +kernel
theorem dX3_dayOf_9 : decode cX3_dayOf 9 = .ok (.getfield 32, 3) := by decide +kernel
theorem dX3_dayOf_12 : decode cX3_dayOf 12 = .ok (.iload_n 1, 1) := by decide +kernel
theorem dX3_dayOf_13 : decode cX3_dayOf 13 = .ok (.iaload, 1) := by decide +kernel
theorem dX3_dayOf_14 : decode cX3_dayOf 14 = .ok (.goto 4, 3) := by decide +kernel
theorem dX3_dayOf_17 : decode cX3_dayOf 17 = .ok (.iconst (-1), 1) := by decide +kernel
theorem dX3_dayOf_18 : decode cX3_dayOf 18 = .ok (.ireturn, 1) := by decide +kernel
set_option maxRecDepth 20000 in
theorem ggX3_firstWordOf_X3_has : GoodIn wsX3_firstWordOf wsX3_has := goodIn_r _ [6, 7, 8, 9, 10, 11, 12, 13, 14] (by decide +kernel) (by decide +kernel)
set_option maxRecDepth 20000 in
theorem gX3_firstWordOf_X3_has : GoodIn wsX3_firstWordOf (wsV RX3 44 RX3 yX3_has wsX3_has) := goodIn_app (goodIn_of _ (by decide +kernel)) ggX3_firstWordOf_X3_has
theorem dX3_firstWordOf_0 : decode cX3_firstWordOf 0 = .ok (.aload_n 0, 1) := by decide +kernel
theorem dX3_firstWordOf_1 : decode cX3_firstWordOf 1 = .ok (.iload_n 1, 1) := by decide +kernel
theorem dX3_firstWordOf_2 : decode cX3_firstWordOf 2 = .ok (.invokevirtual 44, 3) := by decide +kernel
theorem dX3_firstWordOf_5 : decode cX3_firstWordOf 5 = .ok (.ifCond .eq 14, 3) := by decide +kernel
theorem dX3_firstWordOf_8 : decode cX3_firstWordOf 8 = .ok (.aload_n 0, 1) := by decide +kernel
theorem dX3_firstWordOf_9 : decode cX3_firstWordOf 9 = .ok (.getfield 37, 3) := by decide +kernel
theorem dX3_firstWordOf_12 : decode cX3_firstWordOf 12 = .ok (.iload_n 1, 1) := by decide +kernel
theorem dX3_firstWordOf_13 : decode cX3_firstWordOf 13 = .ok (.aaload, 1) := by decide +kernel
theorem dX3_firstWordOf_14 : decode cX3_firstWordOf 14 = .ok (.iconst 0, 1) := by decide +kernel
theorem dX3_firstWordOf_15 : decode cX3_firstWordOf 15 = .ok (.iaload, 1) := by decide +kernel
theorem dX3_firstWordOf_16 : decode cX3_firstWordOf 16 = .ok (.goto 4, 3) := by decide +kernel
theorem dX3_firstWordOf_19 : decode cX3_firstWordOf 19 = .ok (.iconst (-1), 1) := by decide +kernel
theorem dX3_firstWordOf_20 : decode cX3_firstWordOf 20 = .ok (.ireturn, 1) := by decide +kernel
set_option maxRecDepth 20000 in
theorem ggX3_append_X3_computeDigestOf : GoodIn wsX3_append wsX3_computeDigestOf := goodIn_r _ [11, 12, 6, 5, 13, 14, 15, 16, 17, 18, 19, 20, 21, 10, 22, 1, 23, 24, 25, 26, 27, 28, 29, 30, 31, 32, 33, 34, 35, 2, 36, 37, 38, 39, 3, 40, 41, 42, 43, 4, 44, 45, 46, 47, 48, 49, 50, 51, 52, 53, 54, 55, 56, 57, 58, 59, 60, 61, 62, 63, 64, 65, 66, 67, 68, 69, 70, 71, 72, 73, 74, 75, 76, 77, 78, 79, 80, 81, 82, 83, 88, 89, 90, 91, 92, 93, 94, 95, 96, 97, 98] (by decide +kernel) (by decide +kernel)
set_option maxRecDepth 20000 in
theorem gX3_append_X3_computeDigestOf : GoodIn wsX3_append (wsV RX3 48 RX3 yX3_computeDigestOf wsX3_computeDigestOf) := goodIn_app (goodIn_of _ (by decide +kernel)) ggX3_append_X3_computeDigestOf
set_option maxRecDepth 20000 in
theorem ggX3_append_X1_copyTo : GoodIn wsX3_append wsX1_copyTo := goodIn_r _ [87, 49, 97, 98] (by decide +kernel) (by decide +kernel)
set_option maxRecDepth 20000 in
theorem gX3_append_X1_copyTo : GoodIn wsX3_append (wsV RX3 52 RX1 yX1_copyTo wsX1_copyTo) := goodIn_app (goodIn_of _ (by decide +kernel)) ggX3_append_X1_copyTo
theorem dX3_append_0 : decode cX3_append 0 = .ok (.aload_n 0, 1) := by decide +kernel
theorem dX3_append_1 : decode cX3_append 1 = .ok (.getfield 40, 3) := by decide +kernel
theorem dX3_append_4 : decode cX3_append 4 = .ok (.sipush 200, 3) := by decide +kernel
theorem dX3_append_7 : decode cX3_append 7 = .ok (.if_icmp .lt 4, 3) := by decide +kernel
theorem dX3_append_10 : decode cX3_append 10 = .ok (.return_, 1) := by decide +kernel
theorem dX3_append_11 : decode cX3_append 11 = .ok (.aload_n 0, 1) := by decide +kernel
theorem dX3_append_12 : decode cX3_append 12 = .ok (.getfield 40, 3) := by decide +kernel
theorem dX3_append_15 : decode cX3_append 15 = .ok (.istore 4, 2) := by decide +kernel
theorem dX3_append_17 : decode cX3_append 17 = .ok (.aload_n 0, 1) := by decide +kernel
theorem dX3_append_18 : decode cX3_append 18 = .ok (.getfield 25, 3) := by decide +kernel
theorem dX3_append_21 : decode cX3_append 21 = .ok (.iload 4, 2) := by decide +kernel
theorem dX3_append_23 : decode cX3_append 23 = .ok (.iload_n 1, 1) := by decide +kernel
theorem dX3_append_24 : decode cX3_append 24 = .ok (.iastore, 1) := by decide +kernel
theorem dX3_append_25 : decode cX3_append 25 = .ok (.aload_n 0, 1) := by decide +kernel
theorem dX3_append_26 : decode cX3_append 26 = .ok (.getfield 29, 3) := by decide +kernel
theorem dX3_append_29 : decode cX3_append 29 = .ok (.iload 4, 2) := by decide +kernel
theorem dX3_append_31 : decode cX3_append 31 = .ok (.iload_n 2, 1) := by decide +kernel
theorem dX3_append_32 : decode cX3_append 32 = .ok (.iastore, 1) := by decide +kernel
theorem dX3_append_33 : decode cX3_append 33 = .ok (.aload_n 0, 1) := by decide +kernel
theorem dX3_append_34 : decode cX3_append 34 = .ok (.getfield 32, 3) := by decide +kernel
theorem dX3_append_37 : decode cX3_append 37 = .ok (.iload 4, 2) := by decide +kernel
theorem dX3_append_39 : decode cX3_append 39 = .ok (.iload_n 3, 1) := by decide +kernel
theorem dX3_append_40 : decode cX3_append 40 = .ok (.iastore, 1) := by decide +kernel
theorem dX3_append_41 : decode cX3_append 41 = .ok (.aload_n 0, 1) := by decide +kernel
theorem dX3_append_42 : decode cX3_append 42 = .ok (.dup, 1) := by decide +kernel
theorem dX3_append_43 : decode cX3_append 43 = .ok (.getfield 40, 3) := by decide +kernel
theorem dX3_append_46 : decode cX3_append 46 = .ok (.iconst 1, 1) := by decide +kernel
theorem dX3_append_47 : decode cX3_append 47 = .ok (.iadd, 1) := by decide +kernel
theorem dX3_append_48 : decode cX3_append 48 = .ok (.putfield 40, 3) := by decide +kernel
theorem dX3_append_51 : decode cX3_append 51 = .ok (.aload_n 0, 1) := by decide +kernel
theorem dX3_append_52 : decode cX3_append 52 = .ok (.iload 4, 2) := by decide +kernel
theorem dX3_append_54 : decode cX3_append 54 = .ok (.invokevirtual 48, 3) := by decide +kernel
theorem dX3_append_57 : decode cX3_append 57 = .ok (.aload_n 0, 1) := by decide +kernel
theorem dX3_append_58 : decode cX3_append 58 = .ok (.getfield 12, 3) := by decide +kernel
theorem dX3_append_61 : decode cX3_append 61 = .ok (.aload_n 0, 1) := by decide +kernel
theorem dX3_append_62 : decode cX3_append 62 = .ok (.getfield 37, 3) := by decide +kernel
theorem dX3_append_65 : decode cX3_append 65 = .ok (.iload 4, 2) := by decide +kernel
theorem dX3_append_67 : decode cX3_append 67 = .ok (.aaload, 1) := by decide +kernel
theorem dX3_append_68 : decode cX3_append 68 = .ok (.invokevirtual 52, 3) := by decide +kernel
theorem dX3_append_71 : decode cX3_append 71 = .ok (.return_, 1) := by decide +kernel
set_option maxRecDepth 20000 in
theorem ggX3_changeDay_X3_has : GoodIn wsX3_changeDay wsX3_has := goodIn_r _ [6, 7, 8, 9, 10, 11, 12, 13, 14] (by decide +kernel) (by decide +kernel)
set_option maxRecDepth 20000 in
theorem gX3_changeDay_X3_has : GoodIn wsX3_changeDay (wsV RX3 44 RX3 yX3_has wsX3_has) := goodIn_app (goodIn_of _ (by decide +kernel)) ggX3_changeDay_X3_has
theorem dX3_changeDay_0 : decode cX3_changeDay 0 = .ok (.aload_n 0, 1) := by decide +kernel
theorem dX3_changeDay_1 : decode cX3_changeDay 1 = .ok (.iload_n 1, 1) := by decide +kernel
theorem dX3_changeDay_2 : decode cX3_changeDay 2 = .ok (.invokevirtual 44, 3) := by decide +kernel
theorem dX3_changeDay_5 : decode cX3_changeDay 5 = .ok (.ifCond .eq 13, 3) := by decide +kernel
theorem dX3_changeDay_8 : decode cX3_changeDay 8 = .ok (.aload_n 0, 1) := by decide +kernel
theorem dX3_changeDay_9 : decode cX3_changeDay 9 = .ok (.getfield 32, 3) := by decide +kernel
theorem dX3_changeDay_12 : decode cX3_changeDay 12 = .ok (.iload_n 1, 1) := by decide +kernel
theorem dX3_changeDay_13 : decode cX3_changeDay 13 = .ok (.dup2, 1) := by decide +kernel
theorem dX3_changeDay_14 : decode cX3_changeDay 14 = .ok (.iaload, 1) := by decide +kernel
theorem dX3_changeDay_15 : decode cX3_changeDay 15 = .ok (.iload_n 2, 1) := by decide +kernel
theorem dX3_changeDay_16 : decode cX3_changeDay 16 = .ok (.ixor, 1) := by decide +kernel
theorem dX3_changeDay_17 : decode cX3_changeDay 17 = .ok (.iastore, 1) := by decide +kernel
theorem dX3_changeDay_18 : decode cX3_changeDay 18 = .ok (.return_, 1) := by decide +kernel
set_option maxRecDepth 20000 in
theorem ggX3_remove_X3_has : GoodIn wsX3_remove wsX3_has := goodIn_r _ [10, 1, 11, 12, 13, 14, 15, 16, 17] (by decide +kernel) (by decide +kernel)
set_option maxRecDepth 20000 in
theorem gX3_remove_X3_has : GoodIn wsX3_remove (wsV RX3 44 RX3 yX3_has wsX3_has) := goodIn_app (goodIn_of _ (by decide +kernel)) ggX3_remove_X3_has
theorem dX3_remove_0 : decode cX3_remove 0 = .ok (.aload_n 0, 1) := by decide +kernel
theorem dX3_remove_1 : decode cX3_remove 1 = .ok (.iload_n 1, 1) := by decide +kernel
theorem dX3_remove_2 : decode cX3_remove 2 = .ok (.invokevirtual 44, 3) := by decide +kernel
theorem dX3_remove_5 : decode cX3_remove 5 = .ok (.ifCond .ne 4, 3) := by decide +kernel
theorem dX3_remove_8 : decode cX3_remove 8 = .ok (.return_, 1) := by decide +kernel
theorem dX3_remove_9 : decode cX3_remove 9 = .ok (.iload_n 1, 1) := by decide +kernel
theorem dX3_remove_10 : decode cX3_remove 10 = .ok (.istore_n 2, 1) := by decide +kernel
theorem dX3_remove_11 : decode cX3_remove 11 = .ok (.iload_n 2, 1) := by decide +kernel
theorem dX3_remove_12 : decode cX3_remove 12 = .ok (.aload_n 0, 1) := by decide +kernel
theorem dX3_remove_13 : decode cX3_remove 13 = .ok (.getfield 40, 3) := by decide +kernel
theorem dX3_remove_16 : decode cX3_remove 16 = .ok (.iconst 1, 1) := by decide +kernel
theorem dX3_remove_17 : decode cX3_remove 17 = .ok (.isub, 1) := by decide +kernel
theorem dX3_remove_18 : decode cX3_remove 18 = .ok (.if_icmp .ge 83, 3) := by decide +kernel
theorem dX3_remove_21 : decode cX3_remove 21 = .ok (.aload_n 0, 1) := by decide +kernel
theorem dX3_remove_22 : decode cX3_remove 22 = .ok (.getfield 25, 3) := by decide +kernel
theorem dX3_remove_25 : decode cX3_remove 25 = .ok (.iload_n 2, 1) := by decide +kernel
theorem dX3_remove_26 : decode cX3_remove 26 = .ok (.aload_n 0, 1) := by decide +kernel
theorem dX3_remove_27 : decode cX3_remove 27 = .ok (.getfield 25, 3) := by decide +kernel
theorem dX3_remove_30 : decode cX3_remove 30 = .ok (.iload_n 2, 1) := by decide +kernel
theorem dX3_remove_31 : decode cX3_remove 31 = .ok (.iconst 1, 1) := by decide +kernel
theorem dX3_remove_32 : decode cX3_remove 32 = .ok (.iadd, 1) := by decide +kernel
theorem dX3_remove_33 : decode cX3_remove 33 = .ok (.iaload, 1) := by decide +kernel
theorem dX3_remove_34 : decode cX3_remove 34 = .ok (.iastore, 1) := by decide +kernel
theorem dX3_remove_35 : decode cX3_remove 35 = .ok (.aload_n 0, 1) := by decide +kernel
theorem dX3_remove_36 : decode cX3_remove 36 = .ok (.getfield 29, 3) := by decide +kernel
theorem dX3_remove_39 : decode cX3_remove 39 = .ok (.iload_n 2, 1) := by decide +kernel
theorem dX3_remove_40 : decode cX3_remove 40 = .ok (.aload_n 0, 1) := by decide +kernel
theorem dX3_remove_41 : decode cX3_remove 41 = .ok (.getfield 29, 3) := by decide +kernel
theorem dX3_remove_44 : decode cX3_remove 44 = .ok (.iload_n 2, 1) := by decide +kernel
theorem dX3_remove_45 : decode cX3_remove 45 = .ok (.iconst 1, 1) := by decide +kernel
theorem dX3_remove_46 : decode cX3_remove 46 = .ok (.iadd, 1) := by decide +kernel
theorem dX3_remove_47 : decode cX3_remove 47 = .ok (.iaload, 1) := by decide +kernel
theorem dX3_remove_48 : decode cX3_remove 48 = .ok (.iastore, 1) := by decide +kernel
theorem dX3_remove_49 : decode cX3_remove 49 = .ok (.aload_n 0, 1) := by decide +kernel
theorem dX3_remove_50 : decode cX3_remove 50 = .ok (.getfield 32, 3) := by decide +kernel
theorem dX3_remove_53 : decode cX3_remove 53 = .ok (.iload_n 2, 1) := by decide +kernel
theorem dX3_remove_54 : decode cX3_remove 54 = .ok (.aload_n 0, 1) := by decide +kernel
theorem dX3_remove_55 : decode cX3_remove 55 = .ok (.getfield 32, 3) := by decide +kernel
theorem dX3_remove_58 : decode cX3_remove 58 = .ok (.iload_n 2, 1) := by decide +kernel
theorem dX3_remove_59 : decode cX3_remove 59 = .ok (.iconst 1, 1) := by decide +kernel
theorem dX3_remove_60 : decode cX3_remove 60 = .ok (.iadd, 1) := by decide +kernel
theorem dX3_remove_61 : decode cX3_remove 61 = .ok (.iaload, 1) := by decide +kernel
theorem dX3_remove_62 : decode cX3_remove 62 = .ok (.iastore, 1) := by decide +kernel
theorem dX3_remove_63 : decode cX3_remove 63 = .ok (.iconst 0, 1) := by decide +kernel
theorem dX3_remove_64 : decode cX3_remove 64 = .ok (.istore_n 3, 1) := by decide +kernel
theorem dX3_remove_65 : decode cX3_remove 65 = .ok (.iload_n 3, 1) := by decide +kernel
theorem dX3_remove_66 : decode cX3_remove 66 = .ok (.bipush 8, 2) := by decide +kernel
theorem dX3_remove_68 : decode cX3_remove 68 = .ok (.if_icmp .ge 27, 3) := by decide +kernel
theorem dX3_remove_71 : decode cX3_remove 71 = .ok (.aload_n 0, 1) := by decide +kernel
theorem dX3_remove_72 : decode cX3_remove 72 = .ok (.getfield 37, 3) := by decide +kernel
theorem dX3_remove_75 : decode cX3_remove 75 = .ok (.iload_n 2, 1) := by decide +kernel
theorem dX3_remove_76 : decode cX3_remove 76 = .ok (.aaload, 1) := by decide +kernel
theorem dX3_remove_77 : decode cX3_remove 77 = .ok (.iload_n 3, 1) := by decide +kernel
theorem dX3_remove_78 : decode cX3_remove 78 = .ok (.aload_n 0, 1) := by decide +kernel
theorem dX3_remove_79 : decode cX3_remove 79 = .ok (.getfield 37, 3) := by decide +kernel
theorem dX3_remove_82 : decode cX3_remove 82 = .ok (.iload_n 2, 1) := by decide +kernel
theorem dX3_remove_83 : decode cX3_remove 83 = .ok (.iconst 1, 1) := by decide +kernel
theorem dX3_remove_84 : decode cX3_remove 84 = .ok (.iadd, 1) := by decide +kernel
theorem dX3_remove_85 : decode cX3_remove 85 = .ok (.aaload, 1) := by decide +kernel
theorem dX3_remove_86 : decode cX3_remove 86 = .ok (.iload_n 3, 1) := by decide +kernel
theorem dX3_remove_87 : decode cX3_remove 87 = .ok (.iaload, 1) := by decide +kernel
theorem dX3_remove_88 : decode cX3_remove 88 = .ok (.iastore, 1) := by decide +kernel
theorem dX3_remove_89 : decode cX3_remove 89 = .ok (.iinc 3 1, 3) := by decide +kernel
theorem dX3_remove_92 : decode cX3_remove 92 = .ok (.goto (-27), 3) := by decide +kernel
theorem dX3_remove_95 : decode cX3_remove 95 = .ok (.iinc 2 1, 3) := by decide +kernel
theorem dX3_remove_98 : decode cX3_remove 98 = .ok (.goto (-87), 3) := by decide +kernel
theorem dX3_remove_101 : decode cX3_remove 101 = .ok (.aload_n 0, 1) := by decide +kernel
theorem dX3_remove_102 : decode cX3_remove 102 = .ok (.dup, 1) := by decide +kernel
theorem dX3_remove_103 : decode cX3_remove 103 = .ok (.getfield 40, 3) := by decide +kernel
theorem dX3_remove_106 : decode cX3_remove 106 = .ok (.iconst 1, 1) := by decide +kernel
theorem dX3_remove_107 : decode cX3_remove 107 = .ok (.isub, 1) := by decide +kernel
theorem dX3_remove_108 : decode cX3_remove 108 = .ok (.putfield 40, 3) := by decide +kernel
theorem dX3_remove_111 : decode cX3_remove 111 = .ok (.return_, 1) := by decide +kernel
set_option maxRecDepth 20000 in
theorem ggX3_firstBroken_X3_computeDigestOf : GoodIn wsX3_firstBroken wsX3_computeDigestOf := goodIn_r _ [8, 9, 3, 2, 10, 11, 12, 13, 14, 15, 16, 17, 18, 7, 19, 1, 20, 21, 22, 23, 24, 25, 26, 27, 28, 29, 30, 31, 32, 33, 34, 35, 36, 37, 38, 39, 40, 41, 42, 43, 44, 45, 46, 47, 48, 49, 50, 51, 52, 53, 54, 55, 56, 57, 58, 59, 60, 61, 62, 63, 64, 65, 66, 67, 68, 69, 70, 71, 72, 73, 74, 75, 76, 77, 78, 79, 80, 81, 82, 83, 88, 89, 90, 91, 92, 93, 94, 95, 96, 97, 98] (by decide +kernel) (by decide +kernel)
set_option maxRecDepth 20000 in
theorem gX3_firstBroken_X3_computeDigestOf : GoodIn wsX3_firstBroken (wsV RX3 48 RX3 yX3_computeDigestOf wsX3_computeDigestOf) := goodIn_app (goodIn_of _ (by decide +kernel)) ggX3_firstBroken_X3_computeDigestOf
set_option maxRecDepth 20000 in
theorem ggX3_firstBroken_X1_equalTo : GoodIn wsX3_firstBroken wsX1_equalTo := goodIn_r _ [87, 49, 97, 98] (by decide +kernel) (by decide +kernel)
set_option maxRecDepth 20000 in
theorem gX3_firstBroken_X1_equalTo : GoodIn wsX3_firstBroken (wsV RX3 56 RX1 yX1_equalTo wsX1_equalTo) := goodIn_app (goodIn_of _ (by decide +kernel)) ggX3_firstBroken_X1_equalTo
theorem dX3_firstBroken_0 : decode cX3_firstBroken 0 = .ok (.iconst 0, 1) := by decide +kernel
theorem dX3_firstBroken_1 : decode cX3_firstBroken 1 = .ok (.istore_n 1, 1) := by decide +kernel
theorem dX3_firstBroken_2 : decode cX3_firstBroken 2 = .ok (.iload_n 1, 1) := by decide +kernel
theorem dX3_firstBroken_3 : decode cX3_firstBroken 3 = .ok (.aload_n 0, 1) := by decide +kernel
theorem dX3_firstBroken_4 : decode cX3_firstBroken 4 = .ok (.getfield 40, 3) := by decide +kernel
theorem dX3_firstBroken_7 : decode cX3_firstBroken 7 = .ok (.if_icmp .ge 32, 3) := by decide +kernel
theorem dX3_firstBroken_10 : decode cX3_firstBroken 10 = .ok (.aload_n 0, 1) := by decide +kernel
theorem dX3_firstBroken_11 : decode cX3_firstBroken 11 = .ok (.iload_n 1, 1) := by decide +kernel
theorem dX3_firstBroken_12 : decode cX3_firstBroken 12 = .ok (.invokevirtual 48, 3) := by decide +kernel
theorem dX3_firstBroken_15 : decode cX3_firstBroken 15 = .ok (.aload_n 0, 1) := by decide +kernel
theorem dX3_firstBroken_16 : decode cX3_firstBroken 16 = .ok (.getfield 12, 3) := by decide +kernel
theorem dX3_firstBroken_19 : decode cX3_firstBroken 19 = .ok (.aload_n 0, 1) := by decide +kernel
theorem dX3_firstBroken_20 : decode cX3_firstBroken 20 = .ok (.getfield 37, 3) := by decide +kernel
theorem dX3_firstBroken_23 : decode cX3_firstBroken 23 = .ok (.iload_n 1, 1) := by decide +kernel
theorem dX3_firstBroken_24 : decode cX3_firstBroken 24 = .ok (.aaload, 1) := by decide +kernel
theorem dX3_firstBroken_25 : decode cX3_firstBroken 25 = .ok (.invokevirtual 56, 3) := by decide +kernel
theorem dX3_firstBroken_28 : decode cX3_firstBroken 28 = .ok (.ifCond .ne 5, 3) := by decide +kernel
theorem dX3_firstBroken_31 : decode cX3_firstBroken 31 = .ok (.iload_n 1, 1) := by decide +kernel
theorem dX3_firstBroken_32 : decode cX3_firstBroken 32 = .ok (.ireturn, 1) := by decide +kernel
theorem dX3_firstBroken_33 : decode cX3_firstBroken 33 = .ok (.iinc 1 1, 3) := by decide +kernel
theorem dX3_firstBroken_36 : decode cX3_firstBroken 36 = .ok (.goto (-34), 3) := by decide +kernel
theorem dX3_firstBroken_39 : decode cX3_firstBroken 39 = .ok (.iconst (-1), 1) := by decide +kernel
theorem dX3_firstBroken_40 : decode cX3_firstBroken 40 = .ok (.ireturn, 1) := by decide +kernel
set_option maxRecDepth 20000 in
theorem ggX3_computeDigestOf_X2_shorten : GoodIn wsX3_computeDigestOf wsX2_shorten := goodIn_r _ [8, 9, 87, 88] (by decide +kernel) (by decide +kernel)
set_option maxRecDepth 20000 in
theorem gX3_computeDigestOf_X2_shorten : GoodIn wsX3_computeDigestOf (wsV RX3 60 RX2 yX2_shorten wsX2_shorten) := goodIn_app (goodIn_of _ (by decide +kernel)) ggX3_computeDigestOf_X2_shorten
set_option maxRecDepth 20000 in
theorem ggX3_computeDigestOf_X3_has : GoodIn wsX3_computeDigestOf wsX3_has := goodIn_r _ [14, 15, 80, 81, 82, 83, 84, 85, 86] (by decide +kernel) (by decide +kernel)
set_option maxRecDepth 20000 in
theorem gX3_computeDigestOf_X3_has : GoodIn wsX3_computeDigestOf (wsV RX3 44 RX3 yX3_has wsX3_has) := goodIn_app (goodIn_of _ (by decide +kernel)) ggX3_computeDigestOf_X3_has
set_option maxRecDepth 20000 in
theorem ggX3_computeDigestOf_X2_pushWord : GoodIn wsX3_computeDigestOf wsX2_pushWord := goodIn_r _ [19, 20, 21, 22, 7, 23, 9, 24, 87, 88] (by decide +kernel) (by decide +kernel)
set_option maxRecDepth 20000 in
theorem gX3_computeDigestOf_X2_pushWord : GoodIn wsX3_computeDigestOf (wsV RX3 63 RX2 yX2_pushWord wsX2_pushWord) := goodIn_app (goodIn_of _ (by decide +kernel)) ggX3_computeDigestOf_X2_pushWord
set_option maxRecDepth 20000 in
theorem ggX3_computeDigestOf_X3_kindOf : GoodIn wsX3_computeDigestOf wsX3_kindOf := goodIn_r _ [28, 29, 10, 11, 12, 13, 14, 15, 80, 81, 82, 83, 84, 85, 86] (by decide +kernel) (by decide +kernel)
set_option maxRecDepth 20000 in
theorem gX3_computeDigestOf_X3_kindOf : GoodIn wsX3_computeDigestOf (wsV RX3 66 RX3 yX3_kindOf wsX3_kindOf) := goodIn_app (goodIn_of _ (by decide +kernel)) ggX3_computeDigestOf_X3_kindOf
set_option maxRecDepth 20000 in
theorem ggX3_computeDigestOf_X3_fileOf : GoodIn wsX3_computeDigestOf wsX3_fileOf := goodIn_r _ [33, 34, 10, 11, 12, 13, 14, 15, 80, 81, 82, 83, 84, 85, 86] (by decide +kernel) (by decide +kernel)
set_option maxRecDepth 20000 in
theorem gX3_computeDigestOf_X3_fileOf : GoodIn wsX3_computeDigestOf (wsV RX3 70 RX3 yX3_fileOf wsX3_fileOf) := goodIn_app (goodIn_of _ (by decide +kernel)) ggX3_computeDigestOf_X3_fileOf
set_option maxRecDepth 20000 in
theorem ggX3_computeDigestOf_X3_dayOf : GoodIn wsX3_computeDigestOf wsX3_dayOf := goodIn_r _ [38, 39, 10, 11, 12, 13, 14, 15, 80, 81, 82, 83, 84, 85, 86] (by decide +kernel) (by decide +kernel)
set_option maxRecDepth 20000 in
theorem gX3_computeDigestOf_X3_dayOf : GoodIn wsX3_computeDigestOf (wsV RX3 73 RX3 yX3_dayOf wsX3_dayOf) := goodIn_app (goodIn_of _ (by decide +kernel)) ggX3_computeDigestOf_X3_dayOf
set_option maxRecDepth 20000 in
theorem ggX3_computeDigestOf_X1_compute : GoodIn wsX3_computeDigestOf wsX1_compute := goodIn_r _ [44, 45, 46, 47, 48, 49, 50, 7, 51, 9, 52, 53, 43, 54, 55, 56, 57, 58, 24, 59, 60, 61, 62, 63, 64, 65, 66, 67, 68, 69, 70, 71, 72, 73, 74, 75, 76, 77, 78, 79, 89, 90, 87, 88] (by decide +kernel) (by decide +kernel)
set_option maxRecDepth 20000 in
theorem gX3_computeDigestOf_X1_compute : GoodIn wsX3_computeDigestOf (wsV RX3 76 RX1 yX1_compute wsX1_compute) := goodIn_app (goodIn_of _ (by decide +kernel)) ggX3_computeDigestOf_X1_compute
theorem dX3_computeDigestOf_0 : decode cX3_computeDigestOf 0 = .ok (.aload_n 0, 1) := by decide +kernel
theorem dX3_computeDigestOf_1 : decode cX3_computeDigestOf 1 = .ok (.getfield 21, 3) := by decide +kernel
theorem dX3_computeDigestOf_4 : decode cX3_computeDigestOf 4 = .ok (.iconst 0, 1) := by decide +kernel
theorem dX3_computeDigestOf_5 : decode cX3_computeDigestOf 5 = .ok (.invokevirtual 60, 3) := by decide +kernel
theorem dX3_computeDigestOf_8 : decode cX3_computeDigestOf 8 = .ok (.iconst 0, 1) := by decide +kernel
theorem dX3_computeDigestOf_9 : decode cX3_computeDigestOf 9 = .ok (.istore_n 2, 1) := by decide +kernel
theorem dX3_computeDigestOf_10 : decode cX3_computeDigestOf 10 = .ok (.iload_n 2, 1) := by decide +kernel
theorem dX3_computeDigestOf_11 : decode cX3_computeDigestOf 11 = .ok (.bipush 8, 2) := by decide +kernel
theorem dX3_computeDigestOf_13 : decode cX3_computeDigestOf 13 = .ok (.if_icmp .ge 40, 3) := by decide +kernel
theorem dX3_computeDigestOf_16 : decode cX3_computeDigestOf 16 = .ok (.aload_n 0, 1) := by decide +kernel
theorem dX3_computeDigestOf_17 : decode cX3_computeDigestOf 17 = .ok (.getfield 21, 3) := by decide +kernel
theorem dX3_computeDigestOf_20 : decode cX3_computeDigestOf 20 = .ok (.aload_n 0, 1) := by decide +kernel
theorem dX3_computeDigestOf_21 : decode cX3_computeDigestOf 21 = .ok (.iload_n 1, 1) := by decide +kernel
theorem dX3_computeDigestOf_22 : decode cX3_computeDigestOf 22 = .ok (.iconst 1, 1) := by decide +kernel
theorem dX3_computeDigestOf_23 : decode cX3_computeDigestOf 23 = .ok (.isub, 1) := by decide +kernel
theorem dX3_computeDigestOf_24 : decode cX3_computeDigestOf 24 = .ok (.invokevirtual 44, 3) := by decide +kernel
theorem dX3_computeDigestOf_27 : decode cX3_computeDigestOf 27 = .ok (.ifCond .eq 16, 3) := by decide +kernel
theorem dX3_computeDigestOf_30 : decode cX3_computeDigestOf 30 = .ok (.aload_n 0, 1) := by decide +kernel
theorem dX3_computeDigestOf_31 : decode cX3_computeDigestOf 31 = .ok (.getfield 37, 3) := by decide +kernel
theorem dX3_computeDigestOf_34 : decode cX3_computeDigestOf 34 = .ok (.iload_n 1, 1) := by decide +kernel
theorem dX3_computeDigestOf_35 : decode cX3_computeDigestOf 35 = .ok (.iconst 1, 1) := by decide +kernel
theorem dX3_computeDigestOf_36 : decode cX3_computeDigestOf 36 = .ok (.isub, 1) := by decide +kernel
theorem dX3_computeDigestOf_37 : decode cX3_computeDigestOf 37 = .ok (.aaload, 1) := by decide +kernel
theorem dX3_computeDigestOf_38 : decode cX3_computeDigestOf 38 = .ok (.iload_n 2, 1) := by decide +kernel
theorem dX3_computeDigestOf_39 : decode cX3_computeDigestOf 39 = .ok (.iaload, 1) := by decide +kernel
theorem dX3_computeDigestOf_40 : decode cX3_computeDigestOf 40 = .ok (.goto 4, 3) := by decide +kernel
theorem dX3_computeDigestOf_43 : decode cX3_computeDigestOf 43 = .ok (.iconst 0, 1) := by decide +kernel
theorem dX3_computeDigestOf_44 : decode cX3_computeDigestOf 44 = .ok (.invokevirtual 63, 3) := by decide +kernel
theorem dX3_computeDigestOf_47 : decode cX3_computeDigestOf 47 = .ok (.iinc 2 1, 3) := by decide +kernel
theorem dX3_computeDigestOf_50 : decode cX3_computeDigestOf 50 = .ok (.goto (-40), 3) := by decide +kernel
theorem dX3_computeDigestOf_53 : decode cX3_computeDigestOf 53 = .ok (.aload_n 0, 1) := by decide +kernel
theorem dX3_computeDigestOf_54 : decode cX3_computeDigestOf 54 = .ok (.getfield 21, 3) := by decide +kernel
theorem dX3_computeDigestOf_57 : decode cX3_computeDigestOf 57 = .ok (.aload_n 0, 1) := by decide +kernel
theorem dX3_computeDigestOf_58 : decode cX3_computeDigestOf 58 = .ok (.iload_n 1, 1) := by decide +kernel
theorem dX3_computeDigestOf_59 : decode cX3_computeDigestOf 59 = .ok (.invokevirtual 66, 3) := by decide +kernel
theorem dX3_computeDigestOf_62 : decode cX3_computeDigestOf 62 = .ok (.invokevirtual 63, 3) := by decide +kernel
theorem dX3_computeDigestOf_65 : decode cX3_computeDigestOf 65 = .ok (.aload_n 0, 1) := by decide +kernel
theorem dX3_computeDigestOf_66 : decode cX3_computeDigestOf 66 = .ok (.getfield 21, 3) := by decide +kernel
theorem dX3_computeDigestOf_69 : decode cX3_computeDigestOf 69 = .ok (.aload_n 0, 1) := by decide +kernel
theorem dX3_computeDigestOf_70 : decode cX3_computeDigestOf 70 = .ok (.iload_n 1, 1) := by decide +kernel
theorem dX3_computeDigestOf_71 : decode cX3_computeDigestOf 71 = .ok (.invokevirtual 70, 3) := by decide +kernel
theorem dX3_computeDigestOf_74 : decode cX3_computeDigestOf 74 = .ok (.invokevirtual 63, 3) := by decide +kernel
theorem dX3_computeDigestOf_77 : decode cX3_computeDigestOf 77 = .ok (.aload_n 0, 1) := by decide +kernel
theorem dX3_computeDigestOf_78 : decode cX3_computeDigestOf 78 = .ok (.getfield 21, 3) := by decide +kernel
theorem dX3_computeDigestOf_81 : decode cX3_computeDigestOf 81 = .ok (.aload_n 0, 1) := by decide +kernel
theorem dX3_computeDigestOf_82 : decode cX3_computeDigestOf 82 = .ok (.iload_n 1, 1) := by decide +kernel
theorem dX3_computeDigestOf_83 : decode cX3_computeDigestOf 83 = .ok (.invokevirtual 73, 3) := by decide +kernel
theorem dX3_computeDigestOf_86 : decode cX3_computeDigestOf 86 = .ok (.invokevirtual 63, 3) := by decide +kernel
theorem dX3_computeDigestOf_89 : decode cX3_computeDigestOf 89 = .ok (.aload_n 0, 1) := by decide +kernel
theorem dX3_computeDigestOf_90 : decode cX3_computeDigestOf 90 = .ok (.getfield 12, 3) := by decide +kernel
theorem dX3_computeDigestOf_93 : decode cX3_computeDigestOf 93 = .ok (.aload_n 0, 1) := by decide +kernel
theorem dX3_computeDigestOf_94 : decode cX3_computeDigestOf 94 = .ok (.getfield 21, 3) := by decide +kernel
theorem dX3_computeDigestOf_97 : decode cX3_computeDigestOf 97 = .ok (.invokevirtual 76, 3) := by decide +kernel
theorem dX3_computeDigestOf_100 : decode cX3_computeDigestOf 100 = .ok (.return_, 1) := by decide +kernel
set_option maxRecDepth 20000 in
theorem ggX4_init_X4_entry : GoodIn wsX4_init wsX4_entry := goodIn_r _ [9, 10] (by decide +kernel) (by decide +kernel)
set_option maxRecDepth 20000 in
theorem gX4_init_X4_entry : GoodIn wsX4_init (va_wsS RX4 13 yX4_entry wsX4_entry) := goodIn_app (goodIn_of _ (by decide +kernel)) ggX4_init_X4_entry
theorem dX4_init_0 : decode cX4_init 0 = .ok (.aload_n 0, 1) := by decide +kernel
theorem dX4_init_1 : decode cX4_init 1 = .ok (.invokespecial 1, 3) := by decide +kernel
theorem dX4_init_4 : decode cX4_init 4 = .ok (.aload_n 0, 1) := by decide +kernel
theorem dX4_init_5 : decode cX4_init 5 = .ok (.sipush 256, 3) := by decide +kernel
theorem dX4_init_8 : decode cX4_init 8 = .ok (.newarray .int, 2) := by decide +kernel
theorem dX4_init_10 : decode cX4_init 10 = .ok (.putfield 9, 3) := by decide +kernel
theorem dX4_init_13 : decode cX4_init 13 = .ok (.iconst 0, 1) := by decide +kernel
theorem dX4_init_14 : decode cX4_init 14 = .ok (.istore_n 1, 1) := by decide +kernel
theorem dX4_init_15 : decode cX4_init 15 = .ok (.iload_n 1, 1) := by decide +kernel
theorem dX4_init_16 : decode cX4_init 16 = .ok (.sipush 256, 3) := by decide +kernel
theorem dX4_init_19 : decode cX4_init 19 = .ok (.if_icmp .ge 19, 3) := by decide +kernel
theorem dX4_init_22 : decode cX4_init 22 = .ok (.aload_n 0, 1) := by decide +kernel
theorem dX4_init_23 : decode cX4_init 23 = .ok (.getfield 9, 3) := by decide +kernel
theorem dX4_init_26 : decode cX4_init 26 = .ok (.iload_n 1, 1) := by decide +kernel
theorem dX4_init_27 : decode cX4_init 27 = .ok (.iload_n 1, 1) := by decide +kernel
theorem dX4_init_28 : decode cX4_init 28 = .ok (.invokestatic 13, 3) := by decide +kernel
theorem dX4_init_31 : decode cX4_init 31 = .ok (.iastore, 1) := by decide +kernel
theorem dX4_init_32 : decode cX4_init 32 = .ok (.iinc 1 1, 3) := by decide +kernel
theorem dX4_init_35 : decode cX4_init 35 = .ok (.goto (-20), 3) := by decide +kernel
theorem dX4_init_38 : decode cX4_init 38 = .ok (.return_, 1) := by decide +kernel
set_option maxRecDepth 20000 in
theorem ggX4_compute_X2_count : GoodIn wsX4_compute wsX2_count := goodIn_r _ [6, 7, 14, 15] (by decide +kernel) (by decide +kernel)
set_option maxRecDepth 20000 in
theorem gX4_compute_X2_count : GoodIn wsX4_compute (wsV RX4 17 RX2 yX2_count wsX2_count) := goodIn_app (goodIn_of _ (by decide +kernel)) ggX4_compute_X2_count
set_option maxRecDepth 20000 in
theorem ggX4_compute_X2_value : GoodIn wsX4_compute wsX2_value := goodIn_r _ [11, 7, 12, 14, 15] (by decide +kernel) (by decide +kernel)
set_option maxRecDepth 20000 in
theorem gX4_compute_X2_value : GoodIn wsX4_compute (wsV RX4 23 RX2 yX2_value wsX2_value) := goodIn_app (goodIn_of _ (by decide +kernel)) ggX4_compute_X2_value
theorem dX4_compute_0 : decode cX4_compute 0 = .ok (.iconst (-1), 1) := by decide +kernel
theorem dX4_compute_1 : decode cX4_compute 1 = .ok (.istore_n 2, 1) := by decide +kernel
theorem dX4_compute_2 : decode cX4_compute 2 = .ok (.iconst 0, 1) := by decide +kernel
theorem dX4_compute_3 : decode cX4_compute 3 = .ok (.istore_n 3, 1) := by decide +kernel
theorem dX4_compute_4 : decode cX4_compute 4 = .ok (.iload_n 3, 1) := by decide +kernel
theorem dX4_compute_5 : decode cX4_compute 5 = .ok (.aload_n 1, 1) := by decide +kernel
theorem dX4_compute_6 : decode cX4_compute 6 = .ok (.invokevirtual 17, 3) := by decide +kernel
theorem dX4_compute_9 : decode cX4_compute 9 = .ok (.if_icmp .ge 31, 3) := by decide +kernel
theorem dX4_compute_12 : decode cX4_compute 12 = .ok (.iload_n 2, 1) := by decide +kernel
theorem dX4_compute_13 : decode cX4_compute 13 = .ok (.bipush 8, 2) := by decide +kernel
theorem dX4_compute_15 : decode cX4_compute 15 = .ok (.iushr, 1) := by decide +kernel
theorem dX4_compute_16 : decode cX4_compute 16 = .ok (.aload_n 0, 1) := by decide +kernel
theorem dX4_compute_17 : decode cX4_compute 17 = .ok (.getfield 9, 3) := by decide +kernel
theorem dX4_compute_20 : decode cX4_compute 20 = .ok (.iload_n 2, 1) := by decide +kernel
theorem dX4_compute_21 : decode cX4_compute 21 = .ok (.aload_n 1, 1) := by decide +kernel
theorem dX4_compute_22 : decode cX4_compute 22 = .ok (.iload_n 3, 1) := by decide +kernel
theorem dX4_compute_23 : decode cX4_compute 23 = .ok (.invokevirtual 23, 3) := by decide +kernel
theorem dX4_compute_26 : decode cX4_compute 26 = .ok (.ixor, 1) := by decide +kernel
theorem dX4_compute_27 : decode cX4_compute 27 = .ok (.sipush 255, 3) := by decide +kernel
theorem dX4_compute_30 : decode cX4_compute 30 = .ok (.iand, 1) := by decide +kernel
theorem dX4_compute_31 : decode cX4_compute 31 = .ok (.iaload, 1) := by decide +kernel
theorem dX4_compute_32 : decode cX4_compute 32 = .ok (.ixor, 1) := by decide +kernel
theorem dX4_compute_33 : decode cX4_compute 33 = .ok (.istore_n 2, 1) := by decide +kernel
theorem dX4_compute_34 : decode cX4_compute 34 = .ok (.iinc 3 1, 3) := by decide +kernel
theorem dX4_compute_37 : decode cX4_compute 37 = .ok (.goto (-33), 3) := by decide +kernel
theorem dX4_compute_40 : decode cX4_compute 40 = .ok (.iload_n 2, 1) := by decide +kernel
theorem dX4_compute_41 : decode cX4_compute 41 = .ok (.iconst (-1), 1) := by decide +kernel
theorem dX4_compute_42 : decode cX4_compute 42 = .ok (.ixor, 1) := by decide +kernel
theorem dX4_compute_43 : decode cX4_compute 43 = .ok (.ireturn, 1) := by decide +kernel
theorem dX4_entry_0 : decode cX4_entry 0 = .ok (.iload_n 0, 1) := by decide +kernel
theorem dX4_entry_1 : decode cX4_entry 1 = .ok (.istore_n 1, 1) := by decide +kernel
theorem dX4_entry_2 : decode cX4_entry 2 = .ok (.iconst 0, 1) := by decide +kernel
theorem dX4_entry_3 : decode cX4_entry 3 = .ok (.istore_n 2, 1) := by decide +kernel
theorem dX4_entry_4 : decode cX4_entry 4 = .ok (.iload_n 2, 1) := by decide +kernel
theorem dX4_entry_5 : decode cX4_entry 5 = .ok (.bipush 8, 2) := by decide +kernel
theorem dX4_entry_7 : decode cX4_entry 7 = .ok (.if_icmp .ge 34, 3) := by decide +kernel
theorem dX4_entry_10 : decode cX4_entry 10 = .ok (.iload_n 1, 1) := by decide +kernel
theorem dX4_entry_11 : decode cX4_entry 11 = .ok (.iconst 1, 1) := by decide +kernel
theorem dX4_entry_12 : decode cX4_entry 12 = .ok (.iand, 1) := by decide +kernel
theorem dX4_entry_13 : decode cX4_entry 13 = .ok (.ifCond .eq 7, 3) := by decide +kernel
theorem dX4_entry_16 : decode cX4_entry 16 = .ok (.iconst 1, 1) := by decide +kernel
theorem dX4_entry_17 : decode cX4_entry 17 = .ok (.goto 4, 3) := by decide +kernel
theorem dX4_entry_20 : decode cX4_entry 20 = .ok (.iconst 0, 1) := by decide +kernel
theorem dX4_entry_21 : decode cX4_entry 21 = .ok (.istore_n 3, 1) := by decide +kernel
theorem dX4_entry_22 : decode cX4_entry 22 = .ok (.iload_n 1, 1) := by decide +kernel
theorem dX4_entry_23 : decode cX4_entry 23 = .ok (.iconst 1, 1) := by decide +kernel
theorem dX4_entry_24 : decode cX4_entry 24 = .ok (.iushr, 1) := by decide +kernel
theorem dX4_entry_25 : decode cX4_entry 25 = .ok (.istore_n 1, 1) := by decide +kernel
theorem dX4_entry_26 : decode cX4_entry 26 = .ok (.iload_n 3, 1) := by decide +kernel
theorem dX4_entry_27 : decode cX4_entry 27 = .ok (.ifCond .eq 8, 3) := by decide +kernel
theorem dX4_entry_30 : decode cX4_entry 30 = .ok (.iload_n 1, 1) := by decide +kernel
theorem dX4_entry_31 : decode cX4_entry 31 = .ok (.ldc 26, 2) := by decide +kernel
theorem dX4_entry_33 : decode cX4_entry 33 = .ok (.ixor, 1) := by decide +kernel
theorem dX4_entry_34 : decode cX4_entry 34 = .ok (.istore_n 1, 1) := by decide +kernel
theorem dX4_entry_35 : decode cX4_entry 35 = .ok (.iinc 2 1, 3) := by decide +kernel
theorem dX4_entry_38 : decode cX4_entry 38 = .ok (.goto (-34), 3) := by decide +kernel
theorem dX4_entry_41 : decode cX4_entry 41 = .ok (.iload_n 1, 1) := by decide +kernel
theorem dX4_entry_42 : decode cX4_entry 42 = .ok (.ireturn, 1) := by decide +kernel
end
section
/-! ===== rows over numbers that are known as naturals ===== -/
abbrev xT (ca : Nat → ClassId) : List (ClassId × FieldType) := [(ca 0, .int), (ca 1, .byte), (ca 2, .boolean), (ca 3, .object RX0), (ca 4, .array .int), (ca 5, .long)]
abbrev jushr (x y : Int32) : Int32 := (x.toUInt32 >>> (y.toUInt32 &&& Int32.toUInt32 31)).toInt32
abbrev xMi (l : Launch) (y : MethodName) (ws : List Cond) (rm : Room) (av : List Value) (D : va_G) (ca : Nat → ClassId) (N : Nat) (ad : Nat → Nat) (B tR tK : Nat) (f : Nat → va_E) (post : Int32 → (Nat → va_E) → Prop) : Prop := Met l y ws rm (xPre av D (xT ca) N ad B tR tK f) (xQi post D N ad B) 0 0 (xA B)
abbrev xMv (l : Launch) (y : MethodName) (ws : List Cond) (rm : Room) (av : List Value) (D : va_G) (ca : Nat → ClassId) (N : Nat) (ad : Nat → Nat) (B tR tK : Nat) (f : Nat → va_E) (post : (Nat → va_E) → Prop) : Prop := Met l y ws rm (xPre av D (xT ca) N ad B tR tK f) (xQv post D N ad B) 0 0 (xA B)
theorem va_up_of {f g : Nat → va_E} {k : Nat} {e : va_E} (h : g = va_up f k e) : g k = e := by rw [h, va_up_self]
theorem va_up_off {f g : Nat → va_E} {k j : Nat} {e e0 : va_E} (h : g = va_up f k e) (hj : j ≠ k) (h0 : f j = e0) : g j = e0 := by rw [h, va_up_ne _ _ hj, h0]
theorem ofI (n : Nat) : Int32.ofInt (n : Int) = nI n := rfl
theorem ofIm (a c : Nat) (h : c ≤ a) : nI a + Int32.ofInt (-(c : Int)) = nI (a - c) := by
  have h1 : Int32.ofInt (-(c : Int)) = - nI c := by
    apply Int32.toBitVec_inj.mp
    show BitVec.ofInt 32 (-(c : Int)) = - BitVec.ofNat 32 c
    rw [BitVec.ofInt_neg]
    rfl
  rw [h1, ← Int32.sub_eq_add_neg, pk_sub h]
theorem kd_ne {f : Nat → va_E} {a b : Nat} {x : Nat × List Value} {y : ClassId × vp_A} (ha : f a = .inr x) (hb : f b = .inl y) : b ≠ a := fun h => by rw [h, ha] at hb; cases hb
theorem kd_ne' {f : Nat → va_E} {a b : Nat} {x : Nat × List Value} {y : ClassId × vp_A} (ha : f a = .inl y) (hb : f b = .inr x) : b ≠ a := fun h => by rw [h, ha] at hb; cases hb
section NR
variable {p : Program} {l : Launch} {e : Env} {R : Room} {s : State} {m : MethodId} {args : Array Value} {below : List Frame} {meth : Method} {c : Code} {H : Heap} {locs : List Loc} {cells slots : Nat} {Q : State → Prop}
variable {cc : ByteArray} {pc : Nat} {ls : Array Slot} {rest : List Value} {a b : Nat}
theorem n_iadd (hx : p.tables.exec = Jvm.exec) (hb : c.code = cc) (hdg : decode cc pc = .ok (.iadd, 1)) (k : W p l e R s m args below meth c H locs cells slots Q (F0 m (pc + 1) ls (.int (nI (a + b)) :: rest))) : W p l e R s m args below meth c H locs cells slots Q (F0 m pc ls (.int (nI b) :: .int (nI a) :: rest)) := by
  refine lv_iadd hx hb hdg ?_
  rw [nI_add]
  exact k
theorem n_isub (hx : p.tables.exec = Jvm.exec) (hb : c.code = cc) (hdg : decode cc pc = .ok (.isub, 1)) (h : b ≤ a) (k : W p l e R s m args below meth c H locs cells slots Q (F0 m (pc + 1) ls (.int (nI (a - b)) :: rest))) : W p l e R s m args below meth c H locs cells slots Q (F0 m pc ls (.int (nI b) :: .int (nI a) :: rest)) := by
  refine lv_isub hx hb hdg ?_
  rw [pk_sub h]
  exact k
theorem n_imul (hx : p.tables.exec = Jvm.exec) (hb : c.code = cc) (hdg : decode cc pc = .ok (.imul, 1)) (k : W p l e R s m args below meth c H locs cells slots Q (F0 m (pc + 1) ls (.int (nI (a * b)) :: rest))) : W p l e R s m args below meth c H locs cells slots Q (F0 m pc ls (.int (nI b) :: .int (nI a) :: rest)) := by
  refine lv_imul hx hb hdg ?_
  rw [pk_mul]
  exact k
theorem n_idiv (hx : p.tables.exec = Jvm.exec) (hb : c.code = cc) (hdg : decode cc pc = .ok (.idiv, 1)) (h1 : a < 2 ^ 31) (h2 : 0 < b) (h3 : b < 2 ^ 31) (k : W p l e R s m args below meth c H locs cells slots Q (F0 m (pc + 1) ls (.int (nI (a / b)) :: rest))) : W p l e R s m args below meth c H locs cells slots Q (F0 m pc ls (.int (nI b) :: .int (nI a) :: rest)) := by
  refine lv_idiv hx hb hdg (nI_ne0 h2 h3) ?_
  rw [pk_div h1 h2 h3]
  exact k
theorem n_irem (hx : p.tables.exec = Jvm.exec) (hb : c.code = cc) (hdg : decode cc pc = .ok (.irem, 1)) (h1 : a < 2 ^ 31) (h2 : 0 < b) (h3 : b < 2 ^ 31) (k : W p l e R s m args below meth c H locs cells slots Q (F0 m (pc + 1) ls (.int (nI (a % b)) :: rest))) : W p l e R s m args below meth c H locs cells slots Q (F0 m pc ls (.int (nI b) :: .int (nI a) :: rest)) := by
  refine lv_irem hx hb hdg (nI_ne0 h2 h3) ?_
  rw [pk_rem h1 h2 h3]
  exact k
theorem n_iushr (hx : p.tables.exec = Jvm.exec) (hb : c.code = cc) {x y : Int32} (hdg : decode cc pc = .ok (.iushr, 1)) (k : W p l e R s m args below meth c H locs cells slots Q (F0 m (pc + 1) ls (.int (jushr x y) :: rest))) : W p l e R s m args below meth c H locs cells slots Q (F0 m pc ls (.int y :: .int x :: rest)) := lv_iushr hx hb hdg rfl k
theorem n_icge (hx : p.tables.exec = Jvm.exec) (hb : c.code = cc) {off : Int} {tgt : Nat} (hdg : decode cc pc = .ok (.if_icmp .ge off, 3)) (ht : (pc : Int) + off = (tgt : Int)) (h1 : a < 2 ^ 31) (h2 : b < 2 ^ 31) (kt : b ≤ a → W p l e R s m args below meth c H locs cells slots Q (F0 m tgt ls rest)) (kf : a < b → W p l e R s m args below meth c H locs cells slots Q (F0 m (pc + 3) ls rest)) : W p l e R s m args below meth c H locs cells slots Q (F0 m pc ls (.int (nI b) :: .int (nI a) :: rest)) :=
  lv_icmp_ge hx hb hdg ht (fun h => kt ((nI_leI h2 h1).mp h)) (fun h => kf (Nat.not_le.mp fun z => h ((nI_leI h2 h1).mpr z)))
theorem n_iclt (hx : p.tables.exec = Jvm.exec) (hb : c.code = cc) {off : Int} {tgt : Nat} (hdg : decode cc pc = .ok (.if_icmp .lt off, 3)) (ht : (pc : Int) + off = (tgt : Int)) (h1 : a < 2 ^ 31) (h2 : b < 2 ^ 31) (kt : a < b → W p l e R s m args below meth c H locs cells slots Q (F0 m tgt ls rest)) (kf : b ≤ a → W p l e R s m args below meth c H locs cells slots Q (F0 m (pc + 3) ls rest)) : W p l e R s m args below meth c H locs cells slots Q (F0 m pc ls (.int (nI b) :: .int (nI a) :: rest)) :=
  lv_icmp_lt hx hb hdg ht (fun h => kt ((nI_ltI h1 h2).mp h)) (fun h => kf (Nat.not_lt.mp fun z => h ((nI_ltI h1 h2).mpr z)))
theorem n_icgt (hx : p.tables.exec = Jvm.exec) (hb : c.code = cc) {off : Int} {tgt : Nat} (hdg : decode cc pc = .ok (.if_icmp .gt off, 3)) (ht : (pc : Int) + off = (tgt : Int)) (h1 : a < 2 ^ 31) (h2 : b < 2 ^ 31) (kt : b < a → W p l e R s m args below meth c H locs cells slots Q (F0 m tgt ls rest)) (kf : a ≤ b → W p l e R s m args below meth c H locs cells slots Q (F0 m (pc + 3) ls rest)) : W p l e R s m args below meth c H locs cells slots Q (F0 m pc ls (.int (nI b) :: .int (nI a) :: rest)) :=
  lv_icmp_gt hx hb hdg ht (fun h => kt ((nI_ltI h2 h1).mp h)) (fun h => kf (Nat.not_lt.mp fun z => h ((nI_ltI h2 h1).mpr z)))
theorem n_icle (hx : p.tables.exec = Jvm.exec) (hb : c.code = cc) {off : Int} {tgt : Nat} (hdg : decode cc pc = .ok (.if_icmp .le off, 3)) (ht : (pc : Int) + off = (tgt : Int)) (h1 : a < 2 ^ 31) (h2 : b < 2 ^ 31) (kt : a ≤ b → W p l e R s m args below meth c H locs cells slots Q (F0 m tgt ls rest)) (kf : b < a → W p l e R s m args below meth c H locs cells slots Q (F0 m (pc + 3) ls rest)) : W p l e R s m args below meth c H locs cells slots Q (F0 m pc ls (.int (nI b) :: .int (nI a) :: rest)) :=
  lv_icmp_le hx hb hdg ht (fun h => kt ((nI_leI h1 h2).mp h)) (fun h => kf (Nat.not_le.mp fun z => h ((nI_leI h1 h2).mpr z)))
theorem n_iceq (hx : p.tables.exec = Jvm.exec) (hb : c.code = cc) {off : Int} {tgt : Nat} (hdg : decode cc pc = .ok (.if_icmp .eq off, 3)) (ht : (pc : Int) + off = (tgt : Int)) (h1 : a < 2 ^ 31) (h2 : b < 2 ^ 31) (kt : a = b → W p l e R s m args below meth c H locs cells slots Q (F0 m tgt ls rest)) (kf : a ≠ b → W p l e R s m args below meth c H locs cells slots Q (F0 m (pc + 3) ls rest)) : W p l e R s m args below meth c H locs cells slots Q (F0 m pc ls (.int (nI b) :: .int (nI a) :: rest)) :=
  lv_icmp_eq hx hb hdg ht (fun h => kt ((nI_eq h1 h2).mp h)) (fun h => kf (fun z => h ((nI_eq h1 h2).mpr z)))
theorem n_icne (hx : p.tables.exec = Jvm.exec) (hb : c.code = cc) {off : Int} {tgt : Nat} (hdg : decode cc pc = .ok (.if_icmp .ne off, 3)) (ht : (pc : Int) + off = (tgt : Int)) (h1 : a < 2 ^ 31) (h2 : b < 2 ^ 31) (kt : a ≠ b → W p l e R s m args below meth c H locs cells slots Q (F0 m tgt ls rest)) (kf : a = b → W p l e R s m args below meth c H locs cells slots Q (F0 m (pc + 3) ls rest)) : W p l e R s m args below meth c H locs cells slots Q (F0 m pc ls (.int (nI b) :: .int (nI a) :: rest)) :=
  lv_icmp_ne hx hb hdg ht (fun h => kt (fun z => h ((nI_eq h1 h2).mpr z))) (fun h => kf ((nI_eq h1 h2).mp h))
theorem n_iflt (hx : p.tables.exec = Jvm.exec) (hb : c.code = cc) {off : Int} {tgt : Nat} (hdg : decode cc pc = .ok (.ifCond .lt off, 3)) (ht : (pc : Int) + off = (tgt : Int)) (h1 : a < 2 ^ 31) (kf : W p l e R s m args below meth c H locs cells slots Q (F0 m (pc + 3) ls rest)) : W p l e R s m args below meth c H locs cells slots Q (F0 m pc ls (.int (nI a) :: rest)) :=
  lv_if_lt hx hb hdg ht (fun h => absurd h (nI_pos h1)) (fun _ => kf)
theorem n_ifge (hx : p.tables.exec = Jvm.exec) (hb : c.code = cc) {off : Int} {tgt : Nat} (hdg : decode cc pc = .ok (.ifCond .ge off, 3)) (ht : (pc : Int) + off = (tgt : Int)) (h1 : a < 2 ^ 31) (kt : W p l e R s m args below meth c H locs cells slots Q (F0 m tgt ls rest)) : W p l e R s m args below meth c H locs cells slots Q (F0 m pc ls (.int (nI a) :: rest)) :=
  lv_if_ge hx hb hdg ht (fun _ => kt) (fun h => absurd (nI_pos' h1) h)
end NR
end
section
/-! ===== writes one over another ===== -/
theorem up_aa {α : Type} (f : Nat → α) (a : Nat) (x y : α) : va_up (va_up f a x) a y = va_up f a y := bx_uu f a x y
theorem up_aba {α : Type} (f : Nat → α) {a b : Nat} (x y z : α) (h : a ≠ b) : va_up (va_up (va_up f a x) b y) a z = va_up (va_up f a z) b y := by
  funext j
  by_cases h1 : j = a
  · subst h1; rw [va_up_self, va_up_ne _ _ h, va_up_self]
  · by_cases h2 : j = b
    · subst h2; rw [va_up_ne _ _ h1, va_up_self, va_up_self]
    · rw [va_up_ne _ _ h1, va_up_ne _ _ h2, va_up_ne _ _ h1, va_up_ne _ _ h2, va_up_ne _ _ h1]
theorem up_swap {α : Type} (f : Nat → α) {a b : Nat} (x y : α) (h : a ≠ b) : va_up (va_up f a x) b y = va_up (va_up f b y) a x := by
  funext j
  by_cases h1 : j = a
  · subst h1; rw [va_up_ne _ _ h, va_up_self, va_up_self]
  · by_cases h2 : j = b
    · subst h2; rw [va_up_self, va_up_ne _ _ h1, va_up_self]
    · rw [va_up_ne _ _ h2, va_up_ne _ _ h1, va_up_ne _ _ h1, va_up_ne _ _ h2]
theorem up_same {α : Type} (f : Nat → α) (a : Nat) : va_up f a (f a) = f := by
  funext j
  by_cases h : j = a
  · subst h; rw [va_up_self]
  · rw [va_up_ne _ _ h]
/-- the first n of h over g -/
def cpyTo (g h : Nat → Int32) (n : Nat) : Nat → Int32 := fun i => if i < n then h i else g i
theorem cp_0 (g h : Nat → Int32) : cpyTo g h 0 = g := by funext i; simp [cpyTo]
theorem cp_step (g h : Nat → Int32) (n : Nat) : upd (cpyTo g h n) n (h n) = cpyTo g h (n + 1) := by
  funext i
  by_cases e : i = n
  · subst e; simp [cpyTo, pk_us]
  · rw [pk_un e]
    unfold cpyTo
    by_cases h1 : i < n
    · rw [if_pos h1, if_pos (by omega)]
    · rw [if_neg h1, if_neg (by omega)]
theorem cp_in {g h : Nat → Int32} {n i : Nat} (hi : i < n) : cpyTo g h n i = h i := if_pos hi
theorem cp_out {g h : Nat → Int32} {n i : Nat} (hi : n ≤ i) : cpyTo g h n i = g i := if_neg (by omega)
end
section
/-! ===== ALGORITHM 0 as numbers ===== -/
def rot (x : Int32) (k : Nat) : Int32 := jushr x (nI k) ||| x <<< (nI (32 - k) &&& 31)
def sg0 (x : Int32) : Int32 := rot x 7 ^^^ rot x 18 ^^^ jushr x (nI 3)
def sg1 (x : Int32) : Int32 := rot x 17 ^^^ rot x 19 ^^^ jushr x (nI 10)
def bs0 (x : Int32) : Int32 := rot x 2 ^^^ rot x 13 ^^^ rot x 22
def bs1 (x : Int32) : Int32 := rot x 6 ^^^ rot x 11 ^^^ rot x 25
/-- a word more of the schedule -/
def stW (w : Nat → Int32) (t : Nat) : Int32 := w (t - 16) + sg0 (w (t - 15)) + w (t - 7) + sg1 (w (t - 2))
def wid (w : Nat → Int32) : Nat → Nat → Int32
  | 0 => w
  | n + 1 => upd (wid w n) (n + 16) (stW (wid w n) (n + 16))
theorem wid_step (w : Nat → Int32) (i : Nat) (h : 16 ≤ i) : upd (wid w (i - 16)) i (stW (wid w (i - 16)) i) = wid w (i + 1 - 16) := by
  obtain ⟨k, rfl⟩ : ∃ k, i = k + 16 := ⟨i - 16, by omega⟩
  rw [show k + 16 + 1 - 16 = k + 1 by omega, show k + 16 - 16 = k by omega]
  rfl
/-- one round over a .. h -/
def rT1 (k w : Int32) (v : Nat → Int32) : Int32 := v 7 + bs1 (v 4) + (v 4 &&& v 5 ^^^ (v 4 ^^^ (-1)) &&& v 6) + k + w
def rT2 (v : Nat → Int32) : Int32 := bs0 (v 0) + (v 0 &&& v 1 ^^^ v 0 &&& v 2 ^^^ v 1 &&& v 2)
def rstep (k w : Int32) (v : Nat → Int32) : Nat → Int32 := fun j => match j with
  | 0 => rT1 k w v + rT2 v
  | 1 => v 0
  | 2 => v 1
  | 3 => v 2
  | 4 => v 3 + rT1 k w v
  | 5 => v 4
  | 6 => v 5
  | _ => v 6
def rd (e w : Nat → Int32) : Nat → Nat → Int32
  | 0 => e
  | t + 1 => rstep (shK t) (w t) (rd e w t)
def mixTo (e v : Nat → Int32) : Nat → Nat → Int32
  | 0 => e
  | n + 1 => upd (mixTo e v n) n (mixTo e v n n + v n)
theorem mixTo_at (e v : Nat → Int32) : ∀ n j, mixTo e v n j = if j < n then e j + v j else e j := by
  intro n
  induction n with
  | zero => intro j; simp [mixTo]
  | succ n ih =>
    intro j
    show upd (mixTo e v n) n (mixTo e v n n + v n) j = _
    by_cases h : j = n
    · subst h
      rw [pk_us, ih j, if_neg (by omega), if_pos (by omega)]
    · rw [pk_un h, ih j]
      by_cases h1 : j < n
      · rw [if_pos h1, if_pos (by omega)]
      · rw [if_neg h1, if_neg (by omega)]
/-- the padded row's byte i, but for the bits' number; four of them a word -/
def pbyte (n : Nat) (g : Nat → Int32) (i : Nat) : Int32 := if i = n then nI 128 else if i < n then g i else nI 0
def pw (n : Nat) (g : Nat → Int32) (j : Nat) : Nat → Int32
  | 0 => nI 0
  | k + 1 => pw n g j k <<< (nI 8 &&& 31) ||| pbyte n g (j + k)
theorem pw_eq (n : Nat) (g : Nat → Int32) (j k : Nat) (h : j + k = n) : pw n g j (k + 1) = pw n g j k <<< (nI 8 &&& 31) ||| nI 128 := by
  show _ ||| pbyte n g (j + k) = _
  rw [pbyte, if_pos h]
theorem pw_in (n : Nat) (g : Nat → Int32) (j k : Nat) (h : j + k < n) : pw n g j (k + 1) = pw n g j k <<< (nI 8 &&& 31) ||| g (j + k) := by
  show _ ||| pbyte n g (j + k) = _
  rw [pbyte, if_neg (by omega), if_pos h]
theorem pw_out (n : Nat) (g : Nat → Int32) (j k : Nat) (h : n < j + k) : pw n g j (k + 1) = pw n g j k <<< (nI 8 &&& 31) ||| nI 0 := by
  show _ ||| pbyte n g (j + k) = _
  rw [pbyte, if_neg (by omega), if_neg (by omega)]
/-- the sixteen words of block b -/
def bw (n : Nat) (g : Nat → Int32) (b : Nat) (t : Nat) : Int32 := pw n g (b * 64 + t * 4) 4
def nb (n : Nat) : Nat := (n + 8) / 64 + 1
/-- the schedule of block b, over what w held -/
def bW (n : Nat) (g w : Nat → Int32) (b : Nat) : Nat → Int32 := wid (if b = nb n - 1 then upd (cpyTo w (bw n g b) 16) 15 (nI (n * 8)) else cpyTo w (bw n g b) 16) 48
def shA (n : Nat) (g e w : Nat → Int32) : Nat → (Nat → Int32) × (Nat → Int32)
  | 0 => (e, w)
  | b + 1 => (mixTo (shA n g e w b).1 (rd (shA n g e w b).1 (bW n g (shA n g e w b).2 b) 64) 8, bW n g (shA n g e w b).2 b)
/-- the digest by ALGORITHM 0 of n bytes g -/
def sha (n : Nat) (g : Nat → Int32) : Nat → Int32 := (shA n g shR (fun _ => 0) (nb n)).1
theorem wid_ext {w w' : Nat → Int32} : ∀ n, (∀ j, j < 16 → w j = w' j) → ∀ j, j < 16 + n → wid w n j = wid w' n j := by
  intro n
  induction n with
  | zero => intro h j hj; exact h j (by omega)
  | succ n ih =>
    intro h j hj
    show upd (wid w n) (n + 16) (stW (wid w n) (n + 16)) j = upd (wid w' n) (n + 16) (stW (wid w' n) (n + 16)) j
    by_cases e : j = n + 16
    · subst e
      rw [pk_us, pk_us]
      unfold stW
      rw [ih h _ (by omega), ih h _ (by omega), ih h _ (by omega), ih h _ (by omega)]
    · rw [pk_un e, pk_un e]
      exact ih h j (by omega)
theorem rstep_ext {k w : Int32} {v v' : Nat → Int32} (h : ∀ j, j < 8 → v j = v' j) : ∀ j, j < 8 → rstep k w v j = rstep k w v' j := by
  intro j hj
  have e0 := h 0 (by omega); have e1 := h 1 (by omega); have e2 := h 2 (by omega); have e3 := h 3 (by omega)
  have e4 := h 4 (by omega); have e5 := h 5 (by omega); have e6 := h 6 (by omega); have e7 := h 7 (by omega)
  rcases (show j = 0 ∨ j = 1 ∨ j = 2 ∨ j = 3 ∨ j = 4 ∨ j = 5 ∨ j = 6 ∨ j = 7 by omega) with rfl | rfl | rfl | rfl | rfl | rfl | rfl | rfl <;>
    simp only [rstep, rT1, rT2, e0, e1, e2, e3, e4, e5, e6, e7]
theorem rd_ext {e e' w w' : Nat → Int32} : ∀ n, n ≤ 64 → (∀ j, j < 8 → e j = e' j) → (∀ j, j < 64 → w j = w' j) → ∀ j, j < 8 → rd e w n j = rd e' w' n j := by
  intro n
  induction n with
  | zero => intro _ h _ j hj; exact h j hj
  | succ n ih =>
    intro hn h hw j hj
    show rstep (shK n) (w n) (rd e w n) j = rstep (shK n) (w' n) (rd e' w' n) j
    rw [hw n (by omega)]
    exact rstep_ext (ih (by omega) h hw) j hj
theorem bW_ext (n : Nat) (g w w' : Nat → Int32) (b : Nat) : ∀ j, j < 64 → bW n g w b j = bW n g w' b j := by
  intro j hj
  refine wid_ext 48 (fun i hi => ?_) j (by omega)
  by_cases h : b = nb n - 1
  · rw [if_pos h, if_pos h]
    by_cases h1 : i = 15
    · subst h1; rw [pk_us, pk_us]
    · rw [pk_un h1, pk_un h1, cp_in hi, cp_in hi]
  · rw [if_neg h, if_neg h, cp_in hi, cp_in hi]
theorem shA_ext {n : Nat} {g e e' w w' : Nat → Int32} (h : ∀ j, j < 8 → e j = e' j) : ∀ b, ∀ j, j < 8 → (shA n g e w b).1 j = (shA n g e' w' b).1 j := by
  intro b
  induction b with
  | zero => exact h
  | succ b ih =>
    intro j hj
    show mixTo _ _ 8 j = mixTo _ _ 8 j
    rw [mixTo_at, mixTo_at, if_pos hj, if_pos hj, ih j hj, rd_ext 64 (Nat.le_refl _) ih (bW_ext n g _ _ b) j hj]
theorem sha_of {n : Nat} {g e w : Nat → Int32} (h : ∀ j, j < 8 → e j = shR j) : ∀ j, j < 8 → (shA n g e w (nb n)).1 j = sha n g j := shA_ext h (nb n)
theorem pbyte_ext {n : Nat} {g g' : Nat → Int32} (h : ∀ i, i < n → g i = g' i) (i : Nat) : pbyte n g i = pbyte n g' i := by
  unfold pbyte
  by_cases h1 : i = n
  · rw [if_pos h1, if_pos h1]
  · rw [if_neg h1, if_neg h1]
    by_cases h2 : i < n
    · rw [if_pos h2, if_pos h2, h i h2]
    · rw [if_neg h2, if_neg h2]
theorem pw_ext {n : Nat} {g g' : Nat → Int32} (h : ∀ i, i < n → g i = g' i) (j : Nat) : ∀ k, pw n g j k = pw n g' j k := by
  intro k
  induction k with
  | zero => rfl
  | succ k ih =>
    show pw n g j k <<< _ ||| pbyte n g (j + k) = pw n g' j k <<< _ ||| pbyte n g' (j + k)
    rw [ih, pbyte_ext h]
/-- the digest looks at the n bytes alone -/
theorem sha_ext {n : Nat} {g g' : Nat → Int32} (h : ∀ i, i < n → g i = g' i) : sha n g = sha n g' := by
  have hb : ∀ b, bw n g b = bw n g' b := fun b => funext fun t => pw_ext h _ 4
  have hW : ∀ w b, bW n g w b = bW n g' w b := fun w b => by unfold bW; rw [hb]
  have : ∀ b, shA n g shR (fun _ => 0) b = shA n g' shR (fun _ => 0) b := by
    intro b
    induction b with
    | zero => rfl
    | succ b ih =>
      show (mixTo _ _ 8, bW n g _ b) = (mixTo _ _ 8, bW n g' _ b)
      rw [ih, hW]
  unfold sha
  rw [this]
/-! ===== words as bytes ===== -/
/-- four bytes more at k -/
def pwr (g : Nat → Int32) (k : Nat) (x : Int32) : Nat → Int32 := upd (upd (upd (upd g k (jushr x (nI 24) &&& nI 255)) (k + 1) (jushr x (nI 16) &&& nI 255)) (k + 1 + 1) (jushr x (nI 8) &&& nI 255)) (k + 1 + 1 + 1) (jushr x (nI 0) &&& nI 255)
def swr (g W : Nat → Int32) : Nat → Nat → Int32
  | 0 => g
  | i + 1 => pwr (swr g W i) (4 * i) (W i)
theorem swr_step (g W : Nat → Int32) (i : Nat) (x : Int32) (h : W i = x) : pwr (swr g W i) (4 * i) x = swr g W (i + 1) := by rw [← h]; rfl
/-- byte k of a word, the highest first -/
def wb (x : Int32) (k : Nat) : Int32 := jushr x (nI (24 - 8 * k)) &&& nI 255
def sb (W : Nat → Int32) (i : Nat) : Int32 := wb (W (i / 4)) (i % 4)
theorem pwr_at (g : Nat → Int32) (k : Nat) (x : Int32) (i : Nat) : pwr g k x i = if i < k then g i else if i < k + 4 then wb x (i - k) else g i := by
  unfold pwr
  by_cases h : i < k
  · rw [if_pos h, pk_un (by omega), pk_un (by omega), pk_un (by omega), pk_un (by omega)]
  · rw [if_neg h]
    by_cases h2 : i < k + 4
    · rw [if_pos h2]
      rcases (show i = k ∨ i = k + 1 ∨ i = k + 2 ∨ i = k + 3 by omega) with rfl | rfl | rfl | rfl
      · rw [pk_un (by omega), pk_un (by omega), pk_un (by omega), pk_us, Nat.sub_self]; rfl
      · rw [pk_un (by omega), pk_un (by omega), pk_us, Nat.add_sub_cancel_left]; rfl
      · rw [pk_un (by omega), pk_us, Nat.add_sub_cancel_left]; rfl
      · rw [pk_us, Nat.add_sub_cancel_left]; rfl
    · rw [if_neg h2, pk_un (by omega), pk_un (by omega), pk_un (by omega), pk_un (by omega)]
theorem swr_at (g W : Nat → Int32) : ∀ n i, i < 4 * n → swr g W n i = sb W i := by
  intro n
  induction n with
  | zero => intro i h; omega
  | succ n ih =>
    intro i h
    show pwr (swr g W n) (4 * n) (W n) i = _
    rw [pwr_at]
    by_cases h1 : i < 4 * n
    · rw [if_pos h1, ih i h1]
    · rw [if_neg h1, if_pos (by omega)]
      unfold sb
      rw [show i / 4 = n by omega, show i % 4 = i - 4 * n by omega]
/-- a row of THE CHAIN: its eleven words, its digest -/
def rowW (p : Nat → Int32) (a b c : Int32) (k : Nat) : Int32 := if k < 8 then p k else if k = 8 then a else if k = 9 then b else c
def rowD (p : Nat → Int32) (a b c : Int32) : Nat → Int32 := sha 44 (sb (rowW p a b c))
def prevD (M : Nat → Nat → Int32) (i : Nat) : Nat → Int32 := fun k => if i = 0 then nI 0 else M (i - 1) k
theorem rowW_lt {p : Nat → Int32} {a b c : Int32} {k : Nat} (h : k < 8) : rowW p a b c k = p k := if_pos h
theorem prevD_0 {M : Nat → Nat → Int32} {i k : Nat} (h : i = 0) : prevD M i k = nI 0 := if_pos h
theorem prevD_s {M : Nat → Nat → Int32} {i k : Nat} (h : 0 < i) : prevD M i k = M (i - 1) k := if_neg (by omega)
theorem rowD_of {g p : Nat → Int32} {a b c : Int32} : sha 44 (swr g (rowW p a b c) 11) = rowD p a b c := sha_ext (fun i hi => swr_at g _ 11 i (by omega))
theorem sb_ext {W W' : Nat → Int32} {n : Nat} (h : ∀ k, k < n → W k = W' k) : ∀ i, i < 4 * n → sb W i = sb W' i := by
  intro i hi
  unfold sb
  rw [h (i / 4) (by omega)]
theorem rowD_ext {p p' : Nat → Int32} (h : ∀ k, k < 8 → p k = p' k) (a b c : Int32) : rowD p a b c = rowD p' a b c := by
  refine sha_ext (fun i hi => sb_ext (n := 11) (fun k _ => ?_) i (by omega))
  unfold rowW
  by_cases h1 : k < 8
  · rw [if_pos h1, if_pos h1, h k h1]
  · rw [if_neg h1, if_neg h1]
end
section
abbrev rmX2_count : Room := { frames := 0, cells := 0, slots := 0, locals := 0 }

set_option maxHeartbeats 4000000 in
set_option maxRecDepth 100000 in
/-- Octets.count -/
theorem k_X2_count (l : Launch) (D : va_G) (ca : Nat → ClassId) (N : Nat) (ad : Nat → Nat) (B tR tK : Nat) (f : Nat → va_E) (dd : xD N ad B) (q : Nat) (v : Nat) (k : Nat) (l_q : q < N) (c_q : f q = .inr (3, [.ref (ad v), .int (nI k)]))   : xMi l yX2_count wsX2_count rmX2_count [.ref (ad q)] D ca N ad B tR tK f (fun r u => nI k = r ∧ f = u) := by
  refine x_open (cc := cX2_count) (maxL := 1) (ret := (some .int)) (by decide) rfl (Nat.le_of_ble_eq_true rfl) ?_
  intro p e s m below meth c ls hx hb hml hown hts hr hlocks hnm hB hK hE hw hl
  have hown : s.vm.findClass RX2 = some m.cls := hown
  have hl : lv_has ls 1 [(0, .ref (ad q))] := hl
  have hin_3 : ∀ w ∈ u_ws RX2 TX2 2, w ∈ wsX2_count := by decide +kernel
  have hf_15 := hts (.fieldLink RX2 15 "FixityRows$Octets" "size" "I") (by decide +kernel)
  have b_q := c_q
  refine lv_aload_n hx hb dX2_count_0 rfl (lv_at hl 0 rfl) ?_
  refine x_get (ci := 3) (C := RX2) (T := TX2) (n := 2) (ref := RX2) hx hb hts hin_3 hown hK hw q l_q c_q rfl 1 (by decide) hf_15 (fun _ h => h) rfl dX2_count_1 ?_
  exact x_iret hx hb hr hlocks hw ⟨rfl, rfl⟩ dX2_count_4

abbrev rmX2_has : Room := { frames := 0, cells := 0, slots := 0, locals := 0 }

set_option maxHeartbeats 4000000 in
set_option maxRecDepth 100000 in
/-- Octets.has, within -/
theorem k_X2_has_in (l : Launch) (D : va_G) (ca : Nat → ClassId) (N : Nat) (ad : Nat → Nat) (B tR tK : Nat) (f : Nat → va_E) (dd : xD N ad B) (q : Nat) (v : Nat) (k : Nat) (j : Nat) (l_q : q < N) (c_q : f q = .inr (3, [.ref (ad v), .int (nI k)]))  (hj : j < k) (hk : k < 2 ^ 31) : xMi l yX2_has wsX2_has rmX2_has [.ref (ad q), .int (nI j)] D ca N ad B tR tK f (fun r u => nI 1 = r ∧ f = u) := by
  refine x_open (cc := cX2_has) (maxL := 2) (ret := (some .boolean)) (by decide) rfl (Nat.le_of_ble_eq_true rfl) ?_
  intro p e s m below meth c ls hx hb hml hown hts hr hlocks hnm hB hK hE hw hl
  have hown : s.vm.findClass RX2 = some m.cls := hown
  have hl : lv_has ls 2 [(0, .ref (ad q)), (1, .int (nI j))] := hl
  have hin_3 : ∀ w ∈ u_ws RX2 TX2 2, w ∈ wsX2_has := by decide +kernel
  have hf_15 := hts (.fieldLink RX2 15 "FixityRows$Octets" "size" "I") (by decide +kernel)
  have b_q := c_q
  refine lv_iload_n hx hb dX2_has_0 rfl (lv_at hl 1 rfl) ?_
  refine n_iflt (tgt := 16) hx hb dX2_has_1 (by decide) (by omega) ?_
  refine lv_iload_n hx hb dX2_has_4 rfl (lv_at hl 1 rfl) ?_
  refine lv_aload_n hx hb dX2_has_5 rfl (lv_at hl 0 rfl) ?_
  refine x_get (ci := 3) (C := RX2) (T := TX2) (n := 2) (ref := RX2) hx hb hts hin_3 hown hK hw q l_q c_q rfl 1 (by decide) hf_15 (fun _ h => h) rfl dX2_has_6 ?_
  refine n_icge (tgt := 16) hx hb dX2_has_9 (by decide) (by omega) (by omega) (fun c_9 => ?_) (fun c_9 => ?_)
  · omega
  · refine lv_iconst (v := nI 1) hx hb dX2_has_12 (by decide) ?_
    refine lv_goto (tgt := 17) hx hb dX2_has_13 (by decide) ?_
    exact x_zret hx hb hr hlocks hw (by first | exact Or.inl rfl | exact Or.inr rfl) ⟨rfl, rfl⟩ dX2_has_17

set_option maxHeartbeats 4000000 in
set_option maxRecDepth 100000 in
/-- Octets.has, outside -/
theorem k_X2_has_out (l : Launch) (D : va_G) (ca : Nat → ClassId) (N : Nat) (ad : Nat → Nat) (B tR tK : Nat) (f : Nat → va_E) (dd : xD N ad B) (q : Nat) (v : Nat) (k : Nat) (x : Int32) (l_q : q < N) (c_q : f q = .inr (3, [.ref (ad v), .int (nI k)]))  (ho : x < 0 ∨ nI k ≤ x) : xMi l yX2_has wsX2_has rmX2_has [.ref (ad q), .int x] D ca N ad B tR tK f (fun r u => nI 0 = r ∧ f = u) := by
  refine x_open (cc := cX2_has) (maxL := 2) (ret := (some .boolean)) (by decide) rfl (Nat.le_of_ble_eq_true rfl) ?_
  intro p e s m below meth c ls hx hb hml hown hts hr hlocks hnm hB hK hE hw hl
  have hown : s.vm.findClass RX2 = some m.cls := hown
  have hl : lv_has ls 2 [(0, .ref (ad q)), (1, .int x)] := hl
  have hin_3 : ∀ w ∈ u_ws RX2 TX2 2, w ∈ wsX2_has := by decide +kernel
  have hf_15 := hts (.fieldLink RX2 15 "FixityRows$Octets" "size" "I") (by decide +kernel)
  have b_q := c_q
  refine lv_iload_n hx hb dX2_has_0 rfl (lv_at hl 1 rfl) ?_
  refine lv_if_lt (tgt := 16) hx hb dX2_has_1 (by decide) (fun c_1 => ?_) (fun c_1 => ?_)
  · refine lv_iconst (v := nI 0) hx hb dX2_has_16 (by decide) ?_
    exact x_zret hx hb hr hlocks hw (by first | exact Or.inl rfl | exact Or.inr rfl) ⟨rfl, rfl⟩ dX2_has_17
  · refine lv_iload_n hx hb dX2_has_4 rfl (lv_at hl 1 rfl) ?_
    refine lv_aload_n hx hb dX2_has_5 rfl (lv_at hl 0 rfl) ?_
    refine x_get (ci := 3) (C := RX2) (T := TX2) (n := 2) (ref := RX2) hx hb hts hin_3 hown hK hw q l_q c_q rfl 1 (by decide) hf_15 (fun _ h => h) rfl dX2_has_6 ?_
    refine lv_icmp_ge (tgt := 16) hx hb dX2_has_9 (by decide) (fun c_9 => ?_) (fun c_9 => ?_)
    · refine lv_iconst (v := nI 0) hx hb dX2_has_16 (by decide) ?_
      exact x_zret hx hb hr hlocks hw (by first | exact Or.inl rfl | exact Or.inr rfl) ⟨rfl, rfl⟩ dX2_has_17
    · exact absurd ho (fun z => z.elim c_1 c_9)

abbrev rmX2_value : Room := { frames := 0, cells := 0, slots := 0, locals := 0 }

set_option maxHeartbeats 4000000 in
set_option maxRecDepth 100000 in
/-- Octets.value, within -/
theorem k_X2_value_in (l : Launch) (D : va_G) (ca : Nat → ClassId) (N : Nat) (ad : Nat → Nat) (B tR tK : Nat) (f : Nat → va_E) (dd : xD N ad B) (q : Nat) (v : Nat) (k : Nat) (j : Nat) (g : Nat → Int32) (l_q : q < N) (c_q : f q = .inr (3, [.ref (ad v), .int (nI k)])) (l_v : v < N) (c_v : f v = ai (ca 0) 200 g)  (hj : j < k) (hk : k ≤ 200) : xMi l yX2_value wsX2_value rmX2_value [.ref (ad q), .int (nI j)] D ca N ad B tR tK f (fun r u => g j = r ∧ f = u) := by
  refine x_open (cc := cX2_value) (maxL := 2) (ret := (some .int)) (by decide) rfl (Nat.le_of_ble_eq_true rfl) ?_
  intro p e s m below meth c ls hx hb hml hown hts hr hlocks hnm hB hK hE hw hl
  have hown : s.vm.findClass RX2 = some m.cls := hown
  have hl : lv_has ls 2 [(0, .ref (ad q)), (1, .int (nI j))] := hl
  have hin_3 : ∀ w ∈ u_ws RX2 TX2 2, w ∈ wsX2_value := by decide +kernel
  have hf_15 := hts (.fieldLink RX2 15 "FixityRows$Octets" "size" "I") (by decide +kernel)
  have hf_9 := hts (.fieldLink RX2 9 "FixityRows$Octets" "values" "[I") (by decide +kernel)
  have b_q := c_q
  have b_v := c_v
  refine lv_iload_n hx hb dX2_value_0 rfl (lv_at hl 1 rfl) ?_
  refine n_iflt (tgt := 21) hx hb dX2_value_1 (by decide) (by omega) ?_
  refine lv_iload_n hx hb dX2_value_4 rfl (lv_at hl 1 rfl) ?_
  refine lv_aload_n hx hb dX2_value_5 rfl (lv_at hl 0 rfl) ?_
  refine x_get (ci := 3) (C := RX2) (T := TX2) (n := 2) (ref := RX2) hx hb hts hin_3 hown hK hw q l_q c_q rfl 1 (by decide) hf_15 (fun _ h => h) rfl dX2_value_6 ?_
  refine n_icge (tgt := 21) hx hb dX2_value_9 (by decide) (by omega) (by omega) (fun c_9 => ?_) (fun c_9 => ?_)
  · omega
  · refine lv_aload_n hx hb dX2_value_12 rfl (lv_at hl 0 rfl) ?_
    refine x_get (ci := 3) (C := RX2) (T := TX2) (n := 2) (ref := RX2) hx hb hts hin_3 hown hK hw q l_q c_q rfl 0 (by decide) hf_9 (fun _ h => h) rfl dX2_value_13 ?_
    refine lv_iload_n hx hb dX2_value_16 rfl (lv_at hl 1 rfl) ?_
    refine x_iald (j := j) hx hb hK hw v 0 l_v c_v rfl rfl (by omega) (by decide) dX2_value_17 ?_
    refine lv_goto (tgt := 22) hx hb dX2_value_18 (by decide) ?_
    exact x_iret hx hb hr hlocks hw ⟨rfl, rfl⟩ dX2_value_22

set_option maxHeartbeats 4000000 in
set_option maxRecDepth 100000 in
/-- Octets.value, outside -/
theorem k_X2_value_out (l : Launch) (D : va_G) (ca : Nat → ClassId) (N : Nat) (ad : Nat → Nat) (B tR tK : Nat) (f : Nat → va_E) (dd : xD N ad B) (q : Nat) (v : Nat) (k : Nat) (x : Int32) (l_q : q < N) (c_q : f q = .inr (3, [.ref (ad v), .int (nI k)]))  (ho : x < 0 ∨ nI k ≤ x) : xMi l yX2_value wsX2_value rmX2_value [.ref (ad q), .int x] D ca N ad B tR tK f (fun r u => nI 0 = r ∧ f = u) := by
  refine x_open (cc := cX2_value) (maxL := 2) (ret := (some .int)) (by decide) rfl (Nat.le_of_ble_eq_true rfl) ?_
  intro p e s m below meth c ls hx hb hml hown hts hr hlocks hnm hB hK hE hw hl
  have hown : s.vm.findClass RX2 = some m.cls := hown
  have hl : lv_has ls 2 [(0, .ref (ad q)), (1, .int x)] := hl
  have hin_3 : ∀ w ∈ u_ws RX2 TX2 2, w ∈ wsX2_value := by decide +kernel
  have hf_15 := hts (.fieldLink RX2 15 "FixityRows$Octets" "size" "I") (by decide +kernel)
  have b_q := c_q
  refine lv_iload_n hx hb dX2_value_0 rfl (lv_at hl 1 rfl) ?_
  refine lv_if_lt (tgt := 21) hx hb dX2_value_1 (by decide) (fun c_1 => ?_) (fun c_1 => ?_)
  · refine lv_iconst (v := nI 0) hx hb dX2_value_21 (by decide) ?_
    exact x_iret hx hb hr hlocks hw ⟨rfl, rfl⟩ dX2_value_22
  · refine lv_iload_n hx hb dX2_value_4 rfl (lv_at hl 1 rfl) ?_
    refine lv_aload_n hx hb dX2_value_5 rfl (lv_at hl 0 rfl) ?_
    refine x_get (ci := 3) (C := RX2) (T := TX2) (n := 2) (ref := RX2) hx hb hts hin_3 hown hK hw q l_q c_q rfl 1 (by decide) hf_15 (fun _ h => h) rfl dX2_value_6 ?_
    refine lv_icmp_ge (tgt := 21) hx hb dX2_value_9 (by decide) (fun c_9 => ?_) (fun c_9 => ?_)
    · refine lv_iconst (v := nI 0) hx hb dX2_value_21 (by decide) ?_
      exact x_iret hx hb hr hlocks hw ⟨rfl, rfl⟩ dX2_value_22
    · exact absurd ho (fun z => z.elim c_1 c_9)

abbrev rmX2_push : Room := { frames := 0, cells := 0, slots := 0, locals := 0 }

set_option maxHeartbeats 4000000 in
set_option maxRecDepth 100000 in
/-- Octets.push, with room -/
theorem k_X2_push_in (l : Launch) (D : va_G) (ca : Nat → ClassId) (N : Nat) (ad : Nat → Nat) (B tR tK : Nat) (f : Nat → va_E) (dd : xD N ad B) (q : Nat) (v : Nat) (k : Nat) (x : Int32) (g : Nat → Int32) (l_q : q < N) (c_q : f q = .inr (3, [.ref (ad v), .int (nI k)])) (l_v : v < N) (c_v : f v = ai (ca 0) 200 g)  (hk : k < 200) : xMv l yX2_push wsX2_push rmX2_push [.ref (ad q), .int x] D ca N ad B tR tK f (fun u => u = va_up (va_up f v (ai (ca 0) 200 (upd g k (x &&& nI 255)))) q (.inr (3, [.ref (ad v), .int (nI (k + 1))]))) := by
  refine x_open (cc := cX2_push) (maxL := 2) (ret := none) (by decide) rfl (Nat.le_of_ble_eq_true rfl) ?_
  intro p e s m below meth c ls hx hb hml hown hts hr hlocks hnm hB hK hE hw hl
  have hown : s.vm.findClass RX2 = some m.cls := hown
  have hl : lv_has ls 2 [(0, .ref (ad q)), (1, .int x)] := hl
  have hin_3 : ∀ w ∈ u_ws RX2 TX2 2, w ∈ wsX2_push := by decide +kernel
  have hf_15 := hts (.fieldLink RX2 15 "FixityRows$Octets" "size" "I") (by decide +kernel)
  have hf_9 := hts (.fieldLink RX2 9 "FixityRows$Octets" "values" "[I") (by decide +kernel)
  have b_q := c_q
  have b_v := c_v
  refine lv_aload_n hx hb dX2_push_0 rfl (lv_at hl 0 rfl) ?_
  refine x_get (ci := 3) (C := RX2) (T := TX2) (n := 2) (ref := RX2) hx hb hts hin_3 hown hK hw q l_q c_q rfl 1 (by decide) hf_15 (fun _ h => h) rfl dX2_push_1 ?_
  refine lv_sipush (v := nI 200) hx hb dX2_push_4 (by decide) ?_
  refine n_icge (tgt := 34) hx hb dX2_push_7 (by decide) (by omega) (by omega) (fun c_7 => ?_) (fun c_7 => ?_)
  · omega
  · refine lv_aload_n hx hb dX2_push_10 rfl (lv_at hl 0 rfl) ?_
    refine x_get (ci := 3) (C := RX2) (T := TX2) (n := 2) (ref := RX2) hx hb hts hin_3 hown hK hw q l_q c_q rfl 0 (by decide) hf_9 (fun _ h => h) rfl dX2_push_11 ?_
    refine lv_aload_n hx hb dX2_push_14 rfl (lv_at hl 0 rfl) ?_
    refine x_get (ci := 3) (C := RX2) (T := TX2) (n := 2) (ref := RX2) hx hb hts hin_3 hown hK hw q l_q c_q rfl 1 (by decide) hf_15 (fun _ h => h) rfl dX2_push_15 ?_
    refine lv_iload_n hx hb dX2_push_18 rfl (lv_at hl 1 rfl) ?_
    refine lv_sipush (v := nI 255) hx hb dX2_push_19 (by decide) ?_
    refine lv_iand hx hb dX2_push_22 ?_
    refine lv_topi (fun x_1 ex_1 => ?_)
    refine x_iast (j := k) hx hb hK dd hw v 0 l_v c_v rfl rfl (by omega) (by decide) dX2_push_23 (fun H locs hw => ?_)
    obtain ⟨f_2, ef_2⟩ : ∃ z, z = va_up f v (ai (ca 0) 200 (upd g k x_1)) := ⟨_, rfl⟩
    have hw : xw D vwCl N ad B s.heap f_2 H locs := by rw [ef_2]; exact hw
    have c_v : f_2 v = ai (ca 0) 200 (upd g k x_1) := va_up_of ef_2
    refine lv_aload_n hx hb dX2_push_24 rfl (lv_at hl 0 rfl) ?_
    refine lv_dup hx hb dX2_push_25 rfl ?_
    have c_q : f_2 q = .inr (3, [.ref (ad v), .int (nI k)]) := by rw [ef_2, va_up_ne _ _ (kd_ne' b_v b_q)]; exact c_q
    refine x_get (ci := 3) (C := RX2) (T := TX2) (n := 2) (ref := RX2) hx hb hts hin_3 hown hK hw q l_q c_q rfl 1 (by decide) hf_15 (fun _ h => h) rfl dX2_push_26 ?_
    refine lv_iconst (v := nI 1) hx hb dX2_push_29 (by decide) ?_
    refine n_iadd hx hb dX2_push_30 ?_
    refine x_put (ci := 3) (C := RX2) (T := TX2) (n := 2) (ref := RX2) (fs' := [.ref (ad v), .int (nI (k + 1))]) hx hb hts hin_3 tyX2 tyX2_ok nmX2 hown hK dd hw q l_q c_q rfl 1 (by decide) hf_15 (fun _ h => h) rfl rfl rfl (Nat.le_of_ble_eq_true rfl) rfl dX2_push_31 (fun H locs hw => ?_)
    obtain ⟨f_3, ef_3⟩ : ∃ z, z = va_up f_2 q (.inr (3, [.ref (ad v), .int (nI (k + 1))])) := ⟨_, rfl⟩
    have hw : xw D vwCl N ad B s.heap f_3 H locs := by rw [ef_3]; exact hw
    have c_q : f_3 q = .inr (3, [.ref (ad v), .int (nI (k + 1))]) := va_up_of ef_3
    exact x_vret hx hb hr hlocks hw (by simp only [ef_3, ef_2, ex_1]) dX2_push_34

set_option maxHeartbeats 4000000 in
set_option maxRecDepth 100000 in
/-- Octets.push, full -/
theorem k_X2_push_full (l : Launch) (D : va_G) (ca : Nat → ClassId) (N : Nat) (ad : Nat → Nat) (B tR tK : Nat) (f : Nat → va_E) (dd : xD N ad B) (q : Nat) (v : Nat) (k : Nat) (x : Int32) (l_q : q < N) (c_q : f q = .inr (3, [.ref (ad v), .int (nI k)]))  (hk : 200 ≤ k) (hk2 : k < 2 ^ 31) : xMv l yX2_push wsX2_push rmX2_push [.ref (ad q), .int x] D ca N ad B tR tK f (fun u => f = u) := by
  refine x_open (cc := cX2_push) (maxL := 2) (ret := none) (by decide) rfl (Nat.le_of_ble_eq_true rfl) ?_
  intro p e s m below meth c ls hx hb hml hown hts hr hlocks hnm hB hK hE hw hl
  have hown : s.vm.findClass RX2 = some m.cls := hown
  have hl : lv_has ls 2 [(0, .ref (ad q)), (1, .int x)] := hl
  have hin_3 : ∀ w ∈ u_ws RX2 TX2 2, w ∈ wsX2_push := by decide +kernel
  have hf_15 := hts (.fieldLink RX2 15 "FixityRows$Octets" "size" "I") (by decide +kernel)
  have b_q := c_q
  refine lv_aload_n hx hb dX2_push_0 rfl (lv_at hl 0 rfl) ?_
  refine x_get (ci := 3) (C := RX2) (T := TX2) (n := 2) (ref := RX2) hx hb hts hin_3 hown hK hw q l_q c_q rfl 1 (by decide) hf_15 (fun _ h => h) rfl dX2_push_1 ?_
  refine lv_sipush (v := nI 200) hx hb dX2_push_4 (by decide) ?_
  refine n_icge (tgt := 34) hx hb dX2_push_7 (by decide) (by omega) (by omega) (fun c_7 => ?_) (fun c_7 => ?_)
  · exact x_vret hx hb hr hlocks hw rfl dX2_push_34
  · omega

abbrev rmX2_pushWord : Room := { frames := 1, cells := 0, slots := 0, locals := 21 }

set_option maxHeartbeats 4000000 in
set_option maxRecDepth 100000 in
/-- Octets.pushWord -/
theorem k_X2_pushWord (l : Launch) (D : va_G) (ca : Nat → ClassId) (N : Nat) (ad : Nat → Nat) (B tR tK : Nat) (f : Nat → va_E) (dd : xD N ad B) (q : Nat) (v : Nat) (k : Nat) (x : Int32) (g : Nat → Int32) (l_q : q < N) (c_q : f q = .inr (3, [.ref (ad v), .int (nI k)])) (l_v : v < N) (c_v : f v = ai (ca 0) 200 g)  (hk : k + 4 ≤ 200) : xMv l yX2_pushWord wsX2_pushWord rmX2_pushWord [.ref (ad q), .int x] D ca N ad B tR tK f (fun u => u = va_up (va_up f v (ai (ca 0) 200 (pwr g k x))) q (.inr (3, [.ref (ad v), .int (nI (k + 4))]))) := by
  refine x_open (cc := cX2_pushWord) (maxL := 3) (ret := none) (by decide) rfl (Nat.le_of_ble_eq_true rfl) ?_
  intro p e s m below meth c ls hx hb hml hown hts hr hlocks hnm hB hK hE hw hl
  have hown : s.vm.findClass RX2 = some m.cls := hown
  have hl : lv_has ls 3 [(0, .ref (ad q)), (1, .int x)] := hl
  have b_q := c_q
  have b_v := c_v
  refine lv_bipush (v := nI 24) hx hb dX2_pushWord_0 (by decide) ?_
  refine lv_istore_n (lv' := [(2, .int (nI 24)), (0, .ref (ad q)), (1, .int x)]) hx hb dX2_pushWord_2 rfl hl (by decide) rfl (fun ls hl => ?_)
  refine lv_iload_n hx hb dX2_pushWord_3 rfl (lv_at hl 0 rfl) ?_
  refine lv_if_lt (tgt := 20) hx hb dX2_pushWord_4 (by decide) (fun h => absurd h (by decide)) (fun _ => ?_)
  refine lv_aload_n hx hb dX2_pushWord_7 rfl (lv_at hl 1 rfl) ?_
  refine lv_iload_n hx hb dX2_pushWord_8 rfl (lv_at hl 2 rfl) ?_
  refine lv_iload_n hx hb dX2_pushWord_9 rfl (lv_at hl 0 rfl) ?_
  refine n_iushr hx hb dX2_pushWord_10 ?_
  refine lv_topi (fun x_1 ex_1 => ?_)
  refine x_Vv (q := q) (As := [.int x_1]) (rest := []) ⟨hx, hb, hml, hown, hts⟩ (k_X2_push_in l D ca N ad B tR tK f dd q v k x_1 g l_q c_q l_v c_v  (by omega)) (cwV 1 hts gX2_pushWord_X2_push rfl rfl rfl (by decide +kernel) ⟨Nat.le_of_ble_eq_true rfl, Nat.le_of_ble_eq_true rfl⟩) hK hE hB hw l_q c_q rfl rfl rfl rfl hl.1 (Nat.le_of_ble_eq_true rfl) ⟨Nat.zero_le _, Nat.zero_le _⟩ dX2_pushWord_11 (fun f_2 H locs hp hw => ?_)
  have eu := hp
  have ef_2 : f_2 = va_up (va_up f v (ai (ca 0) 200 (upd g k (x_1 &&& nI 255)))) q (.inr (3, [.ref (ad v), .int (nI (k + 1))])) := eu
  have c_v : f_2 v = ai (ca 0) 200 (upd g k (x_1 &&& nI 255)) := by rw [ef_2, va_up_ne _ _ (kd_ne b_q b_v), va_up_self]
  have c_q : f_2 q = .inr (3, [.ref (ad v), .int (nI (k + 1))]) := by rw [ef_2, va_up_self]
  refine lv_iinc (v := nI 16) (lv' := [(2, .int (nI 16)), (0, .ref (ad q)), (1, .int x)]) hx hb dX2_pushWord_14 hl (k := 0) rfl (by decide) (by decide) rfl (fun ls hl => ?_)
  refine lv_goto (tgt := 3) hx hb dX2_pushWord_17 (by decide) ?_
  refine lv_iload_n hx hb dX2_pushWord_3 rfl (lv_at hl 0 rfl) ?_
  refine lv_if_lt (tgt := 20) hx hb dX2_pushWord_4 (by decide) (fun h => absurd h (by decide)) (fun _ => ?_)
  refine lv_aload_n hx hb dX2_pushWord_7 rfl (lv_at hl 1 rfl) ?_
  refine lv_iload_n hx hb dX2_pushWord_8 rfl (lv_at hl 2 rfl) ?_
  refine lv_iload_n hx hb dX2_pushWord_9 rfl (lv_at hl 0 rfl) ?_
  refine n_iushr hx hb dX2_pushWord_10 ?_
  refine lv_topi (fun x_4 ex_4 => ?_)
  refine x_Vv (q := q) (As := [.int x_4]) (rest := []) ⟨hx, hb, hml, hown, hts⟩ (k_X2_push_in l D ca N ad B tR tK f_2 dd q v (k + 1) x_4 (upd g k (x_1 &&& nI 255)) l_q c_q l_v c_v  (by omega)) (cwV 1 hts gX2_pushWord_X2_push rfl rfl rfl (by decide +kernel) ⟨Nat.le_of_ble_eq_true rfl, Nat.le_of_ble_eq_true rfl⟩) hK hE hB hw l_q c_q rfl rfl rfl rfl hl.1 (Nat.le_of_ble_eq_true rfl) ⟨Nat.zero_le _, Nat.zero_le _⟩ dX2_pushWord_11 (fun f_5 H locs hp hw => ?_)
  have eu := hp
  have ef_5 : f_5 = va_up (va_up f_2 v (ai (ca 0) 200 (upd (upd g k (x_1 &&& nI 255)) (k + 1) (x_4 &&& nI 255)))) q (.inr (3, [.ref (ad v), .int (nI ((k + 1) + 1))])) := eu
  have c_v : f_5 v = ai (ca 0) 200 (upd (upd g k (x_1 &&& nI 255)) (k + 1) (x_4 &&& nI 255)) := by rw [ef_5, va_up_ne _ _ (kd_ne b_q b_v), va_up_self]
  have c_q : f_5 q = .inr (3, [.ref (ad v), .int (nI ((k + 1) + 1))]) := by rw [ef_5, va_up_self]
  refine lv_iinc (v := nI 8) (lv' := [(2, .int (nI 8)), (0, .ref (ad q)), (1, .int x)]) hx hb dX2_pushWord_14 hl (k := 0) rfl (by decide) (by decide) rfl (fun ls hl => ?_)
  refine lv_goto (tgt := 3) hx hb dX2_pushWord_17 (by decide) ?_
  refine lv_iload_n hx hb dX2_pushWord_3 rfl (lv_at hl 0 rfl) ?_
  refine lv_if_lt (tgt := 20) hx hb dX2_pushWord_4 (by decide) (fun h => absurd h (by decide)) (fun _ => ?_)
  refine lv_aload_n hx hb dX2_pushWord_7 rfl (lv_at hl 1 rfl) ?_
  refine lv_iload_n hx hb dX2_pushWord_8 rfl (lv_at hl 2 rfl) ?_
  refine lv_iload_n hx hb dX2_pushWord_9 rfl (lv_at hl 0 rfl) ?_
  refine n_iushr hx hb dX2_pushWord_10 ?_
  refine lv_topi (fun x_7 ex_7 => ?_)
  refine x_Vv (q := q) (As := [.int x_7]) (rest := []) ⟨hx, hb, hml, hown, hts⟩ (k_X2_push_in l D ca N ad B tR tK f_5 dd q v ((k + 1) + 1) x_7 (upd (upd g k (x_1 &&& nI 255)) (k + 1) (x_4 &&& nI 255)) l_q c_q l_v c_v  (by omega)) (cwV 1 hts gX2_pushWord_X2_push rfl rfl rfl (by decide +kernel) ⟨Nat.le_of_ble_eq_true rfl, Nat.le_of_ble_eq_true rfl⟩) hK hE hB hw l_q c_q rfl rfl rfl rfl hl.1 (Nat.le_of_ble_eq_true rfl) ⟨Nat.zero_le _, Nat.zero_le _⟩ dX2_pushWord_11 (fun f_8 H locs hp hw => ?_)
  have eu := hp
  have ef_8 : f_8 = va_up (va_up f_5 v (ai (ca 0) 200 (upd (upd (upd g k (x_1 &&& nI 255)) (k + 1) (x_4 &&& nI 255)) ((k + 1) + 1) (x_7 &&& nI 255)))) q (.inr (3, [.ref (ad v), .int (nI (((k + 1) + 1) + 1))])) := eu
  have c_v : f_8 v = ai (ca 0) 200 (upd (upd (upd g k (x_1 &&& nI 255)) (k + 1) (x_4 &&& nI 255)) ((k + 1) + 1) (x_7 &&& nI 255)) := by rw [ef_8, va_up_ne _ _ (kd_ne b_q b_v), va_up_self]
  have c_q : f_8 q = .inr (3, [.ref (ad v), .int (nI (((k + 1) + 1) + 1))]) := by rw [ef_8, va_up_self]
  refine lv_iinc (v := nI 0) (lv' := [(2, .int (nI 0)), (0, .ref (ad q)), (1, .int x)]) hx hb dX2_pushWord_14 hl (k := 0) rfl (by decide) (by decide) rfl (fun ls hl => ?_)
  refine lv_goto (tgt := 3) hx hb dX2_pushWord_17 (by decide) ?_
  refine lv_iload_n hx hb dX2_pushWord_3 rfl (lv_at hl 0 rfl) ?_
  refine lv_if_lt (tgt := 20) hx hb dX2_pushWord_4 (by decide) (fun h => absurd h (by decide)) (fun _ => ?_)
  refine lv_aload_n hx hb dX2_pushWord_7 rfl (lv_at hl 1 rfl) ?_
  refine lv_iload_n hx hb dX2_pushWord_8 rfl (lv_at hl 2 rfl) ?_
  refine lv_iload_n hx hb dX2_pushWord_9 rfl (lv_at hl 0 rfl) ?_
  refine n_iushr hx hb dX2_pushWord_10 ?_
  refine lv_topi (fun x_10 ex_10 => ?_)
  refine x_Vv (q := q) (As := [.int x_10]) (rest := []) ⟨hx, hb, hml, hown, hts⟩ (k_X2_push_in l D ca N ad B tR tK f_8 dd q v (((k + 1) + 1) + 1) x_10 (upd (upd (upd g k (x_1 &&& nI 255)) (k + 1) (x_4 &&& nI 255)) ((k + 1) + 1) (x_7 &&& nI 255)) l_q c_q l_v c_v  (by omega)) (cwV 1 hts gX2_pushWord_X2_push rfl rfl rfl (by decide +kernel) ⟨Nat.le_of_ble_eq_true rfl, Nat.le_of_ble_eq_true rfl⟩) hK hE hB hw l_q c_q rfl rfl rfl rfl hl.1 (Nat.le_of_ble_eq_true rfl) ⟨Nat.zero_le _, Nat.zero_le _⟩ dX2_pushWord_11 (fun f_11 H locs hp hw => ?_)
  have eu := hp
  have ef_11 : f_11 = va_up (va_up f_8 v (ai (ca 0) 200 (upd (upd (upd (upd g k (x_1 &&& nI 255)) (k + 1) (x_4 &&& nI 255)) ((k + 1) + 1) (x_7 &&& nI 255)) (((k + 1) + 1) + 1) (x_10 &&& nI 255)))) q (.inr (3, [.ref (ad v), .int (nI ((((k + 1) + 1) + 1) + 1))])) := eu
  have c_v : f_11 v = ai (ca 0) 200 (upd (upd (upd (upd g k (x_1 &&& nI 255)) (k + 1) (x_4 &&& nI 255)) ((k + 1) + 1) (x_7 &&& nI 255)) (((k + 1) + 1) + 1) (x_10 &&& nI 255)) := by rw [ef_11, va_up_ne _ _ (kd_ne b_q b_v), va_up_self]
  have c_q : f_11 q = .inr (3, [.ref (ad v), .int (nI ((((k + 1) + 1) + 1) + 1))]) := by rw [ef_11, va_up_self]
  refine lv_iinc (v := (-8)) (lv' := [(2, .int ((-8))), (0, .ref (ad q)), (1, .int x)]) hx hb dX2_pushWord_14 hl (k := 0) rfl (by decide) (by decide) rfl (fun ls hl => ?_)
  refine lv_goto (tgt := 3) hx hb dX2_pushWord_17 (by decide) ?_
  refine lv_iload_n hx hb dX2_pushWord_3 rfl (lv_at hl 0 rfl) ?_
  refine lv_if_lt (tgt := 20) hx hb dX2_pushWord_4 (by decide) (fun _ => ?_) (fun h => False.elim (h (by decide)))
  exact x_vret hx hb hr hlocks hw (by simp only [ef_11, ex_10, ef_8, ex_7, ef_5, ex_4, ef_2, ex_1, up_aa, up_aba _ _ _ _ (kd_ne b_q b_v)]; rfl) dX2_pushWord_20

abbrev rmX2_replace : Room := { frames := 1, cells := 0, slots := 0, locals := 21 }

set_option maxHeartbeats 4000000 in
set_option maxRecDepth 100000 in
/-- Octets.replace, within -/
theorem k_X2_replace_in (l : Launch) (D : va_G) (ca : Nat → ClassId) (N : Nat) (ad : Nat → Nat) (B tR tK : Nat) (f : Nat → va_E) (dd : xD N ad B) (q : Nat) (v : Nat) (k : Nat) (j : Nat) (x : Int32) (g : Nat → Int32) (l_q : q < N) (c_q : f q = .inr (3, [.ref (ad v), .int (nI k)])) (l_v : v < N) (c_v : f v = ai (ca 0) 200 g)  (hj : j < k) (hk : k ≤ 200) : xMv l yX2_replace wsX2_replace rmX2_replace [.ref (ad q), .int (nI j), .int x] D ca N ad B tR tK f (fun u => u = va_up f v (ai (ca 0) 200 (upd g j (x &&& nI 255)))) := by
  refine x_open (cc := cX2_replace) (maxL := 3) (ret := none) (by decide) rfl (Nat.le_of_ble_eq_true rfl) ?_
  intro p e s m below meth c ls hx hb hml hown hts hr hlocks hnm hB hK hE hw hl
  have hown : s.vm.findClass RX2 = some m.cls := hown
  have hl : lv_has ls 3 [(0, .ref (ad q)), (1, .int (nI j)), (2, .int x)] := hl
  have hin_3 : ∀ w ∈ u_ws RX2 TX2 2, w ∈ wsX2_replace := by decide +kernel
  have hf_9 := hts (.fieldLink RX2 9 "FixityRows$Octets" "values" "[I") (by decide +kernel)
  have b_q := c_q
  have b_v := c_v
  refine lv_aload_n hx hb dX2_replace_0 rfl (lv_at hl 0 rfl) ?_
  refine lv_iload_n hx hb dX2_replace_1 rfl (lv_at hl 1 rfl) ?_
  refine x_Vi (q := q) (As := [.int (nI j)]) (rest := []) ⟨hx, hb, hml, hown, hts⟩ (k_X2_has_in l D ca N ad B tR tK f dd q v k j l_q c_q  (by omega) (by omega)) (cwV 1 hts gX2_replace_X2_has rfl rfl rfl (by decide +kernel) ⟨Nat.le_of_ble_eq_true rfl, Nat.le_of_ble_eq_true rfl⟩) hK hE hB hw l_q c_q rfl rfl rfl rfl hl.1 (Nat.le_of_ble_eq_true rfl) ⟨Nat.zero_le _, Nat.zero_le _⟩ dX2_replace_2 (fun r_2 f_1 H locs hp hw => ?_)
  obtain ⟨er, eu⟩ := hp
  rw [← er]
  rw [← eu] at hw
  refine lv_if_eq (tgt := 19) hx hb dX2_replace_5 (by decide) (fun h => absurd h (by decide)) (fun _ => ?_)
  refine lv_aload_n hx hb dX2_replace_8 rfl (lv_at hl 0 rfl) ?_
  refine x_get (ci := 3) (C := RX2) (T := TX2) (n := 2) (ref := RX2) hx hb hts hin_3 hown hK hw q l_q c_q rfl 0 (by decide) hf_9 (fun _ h => h) rfl dX2_replace_9 ?_
  refine lv_iload_n hx hb dX2_replace_12 rfl (lv_at hl 1 rfl) ?_
  refine lv_iload_n hx hb dX2_replace_13 rfl (lv_at hl 2 rfl) ?_
  refine lv_sipush (v := nI 255) hx hb dX2_replace_14 (by decide) ?_
  refine lv_iand hx hb dX2_replace_17 ?_
  refine lv_topi (fun x_3 ex_3 => ?_)
  refine x_iast (j := j) hx hb hK dd hw v 0 l_v c_v rfl rfl (by omega) (by decide) dX2_replace_18 (fun H locs hw => ?_)
  obtain ⟨f_4, ef_4⟩ : ∃ z, z = va_up f v (ai (ca 0) 200 (upd g j x_3)) := ⟨_, rfl⟩
  have hw : xw D vwCl N ad B s.heap f_4 H locs := by rw [ef_4]; exact hw
  have c_v : f_4 v = ai (ca 0) 200 (upd g j x_3) := va_up_of ef_4
  exact x_vret hx hb hr hlocks hw (by simp only [ef_4, ex_3]) dX2_replace_19

abbrev rmX2_shorten : Room := { frames := 0, cells := 0, slots := 0, locals := 0 }

set_option maxHeartbeats 4000000 in
set_option maxRecDepth 100000 in
/-- Octets.shorten, to less -/
theorem k_X2_shorten_in (l : Launch) (D : va_G) (ca : Nat → ClassId) (N : Nat) (ad : Nat → Nat) (B tR tK : Nat) (f : Nat → va_E) (dd : xD N ad B) (q : Nat) (v : Nat) (k : Nat) (j : Nat) (l_q : q < N) (c_q : f q = .inr (3, [.ref (ad v), .int (nI k)]))  (hj : j < k) (hk : k < 2 ^ 31) : xMv l yX2_shorten wsX2_shorten rmX2_shorten [.ref (ad q), .int (nI j)] D ca N ad B tR tK f (fun u => u = va_up f q (.inr (3, [.ref (ad v), .int (nI j)]))) := by
  refine x_open (cc := cX2_shorten) (maxL := 2) (ret := none) (by decide) rfl (Nat.le_of_ble_eq_true rfl) ?_
  intro p e s m below meth c ls hx hb hml hown hts hr hlocks hnm hB hK hE hw hl
  have hown : s.vm.findClass RX2 = some m.cls := hown
  have hl : lv_has ls 2 [(0, .ref (ad q)), (1, .int (nI j))] := hl
  have hin_3 : ∀ w ∈ u_ws RX2 TX2 2, w ∈ wsX2_shorten := by decide +kernel
  have hf_15 := hts (.fieldLink RX2 15 "FixityRows$Octets" "size" "I") (by decide +kernel)
  have b_q := c_q
  refine lv_iload_n hx hb dX2_shorten_0 rfl (lv_at hl 1 rfl) ?_
  refine n_iflt (tgt := 17) hx hb dX2_shorten_1 (by decide) (by omega) ?_
  refine lv_iload_n hx hb dX2_shorten_4 rfl (lv_at hl 1 rfl) ?_
  refine lv_aload_n hx hb dX2_shorten_5 rfl (lv_at hl 0 rfl) ?_
  refine x_get (ci := 3) (C := RX2) (T := TX2) (n := 2) (ref := RX2) hx hb hts hin_3 hown hK hw q l_q c_q rfl 1 (by decide) hf_15 (fun _ h => h) rfl dX2_shorten_6 ?_
  refine n_icge (tgt := 17) hx hb dX2_shorten_9 (by decide) (by omega) (by omega) (fun c_9 => ?_) (fun c_9 => ?_)
  · omega
  · refine lv_aload_n hx hb dX2_shorten_12 rfl (lv_at hl 0 rfl) ?_
    refine lv_iload_n hx hb dX2_shorten_13 rfl (lv_at hl 1 rfl) ?_
    refine x_put (ci := 3) (C := RX2) (T := TX2) (n := 2) (ref := RX2) (fs' := [.ref (ad v), .int (nI j)]) hx hb hts hin_3 tyX2 tyX2_ok nmX2 hown hK dd hw q l_q c_q rfl 1 (by decide) hf_15 (fun _ h => h) rfl rfl rfl (Nat.le_of_ble_eq_true rfl) rfl dX2_shorten_14 (fun H locs hw => ?_)
    obtain ⟨f_1, ef_1⟩ : ∃ z, z = va_up f q (.inr (3, [.ref (ad v), .int (nI j)])) := ⟨_, rfl⟩
    have hw : xw D vwCl N ad B s.heap f_1 H locs := by rw [ef_1]; exact hw
    have c_q : f_1 q = .inr (3, [.ref (ad v), .int (nI j)]) := va_up_of ef_1
    exact x_vret hx hb hr hlocks hw (by simp only [ef_1]) dX2_shorten_17

set_option maxHeartbeats 4000000 in
set_option maxRecDepth 100000 in
/-- Octets.shorten, to no less -/
theorem k_X2_shorten_same (l : Launch) (D : va_G) (ca : Nat → ClassId) (N : Nat) (ad : Nat → Nat) (B tR tK : Nat) (f : Nat → va_E) (dd : xD N ad B) (q : Nat) (v : Nat) (k : Nat) (j : Nat) (l_q : q < N) (c_q : f q = .inr (3, [.ref (ad v), .int (nI k)]))  (hj : k ≤ j) (hk : j < 2 ^ 31) : xMv l yX2_shorten wsX2_shorten rmX2_shorten [.ref (ad q), .int (nI j)] D ca N ad B tR tK f (fun u => f = u) := by
  refine x_open (cc := cX2_shorten) (maxL := 2) (ret := none) (by decide) rfl (Nat.le_of_ble_eq_true rfl) ?_
  intro p e s m below meth c ls hx hb hml hown hts hr hlocks hnm hB hK hE hw hl
  have hown : s.vm.findClass RX2 = some m.cls := hown
  have hl : lv_has ls 2 [(0, .ref (ad q)), (1, .int (nI j))] := hl
  have hin_3 : ∀ w ∈ u_ws RX2 TX2 2, w ∈ wsX2_shorten := by decide +kernel
  have hf_15 := hts (.fieldLink RX2 15 "FixityRows$Octets" "size" "I") (by decide +kernel)
  have b_q := c_q
  refine lv_iload_n hx hb dX2_shorten_0 rfl (lv_at hl 1 rfl) ?_
  refine n_iflt (tgt := 17) hx hb dX2_shorten_1 (by decide) (by omega) ?_
  refine lv_iload_n hx hb dX2_shorten_4 rfl (lv_at hl 1 rfl) ?_
  refine lv_aload_n hx hb dX2_shorten_5 rfl (lv_at hl 0 rfl) ?_
  refine x_get (ci := 3) (C := RX2) (T := TX2) (n := 2) (ref := RX2) hx hb hts hin_3 hown hK hw q l_q c_q rfl 1 (by decide) hf_15 (fun _ h => h) rfl dX2_shorten_6 ?_
  refine n_icge (tgt := 17) hx hb dX2_shorten_9 (by decide) (by omega) (by omega) (fun c_9 => ?_) (fun c_9 => ?_)
  · exact x_vret hx hb hr hlocks hw rfl dX2_shorten_17
  · omega

set_option maxHeartbeats 4000000 in
set_option maxRecDepth 100000 in
/-- Octets.shorten, to nothing -/
theorem k_X2_shorten_zero (l : Launch) (D : va_G) (ca : Nat → ClassId) (N : Nat) (ad : Nat → Nat) (B tR tK : Nat) (f : Nat → va_E) (dd : xD N ad B) (q : Nat) (v : Nat) (k : Nat) (l_q : q < N) (c_q : f q = .inr (3, [.ref (ad v), .int (nI k)]))  (hk : k < 2 ^ 31) : xMv l yX2_shorten wsX2_shorten rmX2_shorten [.ref (ad q), .int (nI 0)] D ca N ad B tR tK f (fun u => u = va_up f q (.inr (3, [.ref (ad v), .int (nI 0)]))) := by
  refine x_open (cc := cX2_shorten) (maxL := 2) (ret := none) (by decide) rfl (Nat.le_of_ble_eq_true rfl) ?_
  intro p e s m below meth c ls hx hb hml hown hts hr hlocks hnm hB hK hE hw hl
  have hown : s.vm.findClass RX2 = some m.cls := hown
  have hl : lv_has ls 2 [(0, .ref (ad q)), (1, .int (nI 0))] := hl
  have hin_3 : ∀ w ∈ u_ws RX2 TX2 2, w ∈ wsX2_shorten := by decide +kernel
  have hf_15 := hts (.fieldLink RX2 15 "FixityRows$Octets" "size" "I") (by decide +kernel)
  have b_q := c_q
  refine lv_iload_n hx hb dX2_shorten_0 rfl (lv_at hl 1 rfl) ?_
  refine lv_if_lt (tgt := 17) hx hb dX2_shorten_1 (by decide) (fun h => absurd h (by decide)) (fun _ => ?_)
  refine lv_iload_n hx hb dX2_shorten_4 rfl (lv_at hl 1 rfl) ?_
  refine lv_aload_n hx hb dX2_shorten_5 rfl (lv_at hl 0 rfl) ?_
  refine x_get (ci := 3) (C := RX2) (T := TX2) (n := 2) (ref := RX2) hx hb hts hin_3 hown hK hw q l_q c_q rfl 1 (by decide) hf_15 (fun _ h => h) rfl dX2_shorten_6 ?_
  refine n_icge (tgt := 17) hx hb dX2_shorten_9 (by decide) (by omega) (by omega) (fun c_9 => ?_) (fun c_9 => ?_)
  · exact x_vret hx hb hr hlocks hw (by have ek : k = 0 := (by omega); subst ek; rw [← b_q, up_same]) dX2_shorten_17
  · refine lv_aload_n hx hb dX2_shorten_12 rfl (lv_at hl 0 rfl) ?_
    refine lv_iload_n hx hb dX2_shorten_13 rfl (lv_at hl 1 rfl) ?_
    refine x_put (ci := 3) (C := RX2) (T := TX2) (n := 2) (ref := RX2) (fs' := [.ref (ad v), .int (nI 0)]) hx hb hts hin_3 tyX2 tyX2_ok nmX2 hown hK dd hw q l_q c_q rfl 1 (by decide) hf_15 (fun _ h => h) rfl rfl rfl (Nat.le_of_ble_eq_true rfl) rfl dX2_shorten_14 (fun H locs hw => ?_)
    obtain ⟨f_1, ef_1⟩ : ∃ z, z = va_up f q (.inr (3, [.ref (ad v), .int (nI 0)])) := ⟨_, rfl⟩
    have hw : xw D vwCl N ad B s.heap f_1 H locs := by rw [ef_1]; exact hw
    have c_q : f_1 q = .inr (3, [.ref (ad v), .int (nI 0)]) := va_up_of ef_1
    exact x_vret hx hb hr hlocks hw (by simp only [ef_1]) dX2_shorten_17

abbrev rmX2_copyFrom : Room := { frames := 0, cells := 0, slots := 0, locals := 0 }

set_option maxHeartbeats 4000000 in
set_option maxRecDepth 100000 in
/-- Octets.copyFrom another -/
theorem k_X2_copyFrom (l : Launch) (D : va_G) (ca : Nat → ClassId) (N : Nat) (ad : Nat → Nat) (B tR tK : Nat) (f : Nat → va_E) (dd : xD N ad B) (q : Nat) (v : Nat) (k : Nat) (g : Nat → Int32) (o : Nat) (w : Nat) (j : Nat) (h : Nat → Int32) (l_q : q < N) (c_q : f q = .inr (3, [.ref (ad v), .int (nI k)])) (l_v : v < N) (c_v : f v = ai (ca 0) 200 g) (l_o : o < N) (c_o : f o = .inr (3, [.ref (ad w), .int (nI j)])) (l_w : w < N) (c_w : f w = ai (ca 0) 200 h)  (n1 : q ≠ o) (n2 : v ≠ w) (hj : j ≤ 200) : xMv l yX2_copyFrom wsX2_copyFrom rmX2_copyFrom [.ref (ad q), .ref (ad o)] D ca N ad B tR tK f (fun u => u = va_up (va_up f q (.inr (3, [.ref (ad v), .int (nI j)]))) v (ai (ca 0) 200 (cpyTo g h j))) := by
  refine x_open (cc := cX2_copyFrom) (maxL := 3) (ret := none) (by decide) rfl (Nat.le_of_ble_eq_true rfl) ?_
  intro p e s m below meth c ls hx hb hml hown hts hr hlocks hnm hB hK hE hw hl
  have hown : s.vm.findClass RX2 = some m.cls := hown
  have hl : lv_has ls 3 [(0, .ref (ad q)), (1, .ref (ad o))] := hl
  have hin_3 : ∀ w ∈ u_ws RX2 TX2 2, w ∈ wsX2_copyFrom := by decide +kernel
  have hf_15 := hts (.fieldLink RX2 15 "FixityRows$Octets" "size" "I") (by decide +kernel)
  have hf_9 := hts (.fieldLink RX2 9 "FixityRows$Octets" "values" "[I") (by decide +kernel)
  have b_q := c_q
  have b_v := c_v
  have b_o := c_o
  have b_w := c_w
  have P_10 : ∀ (n_10 : Nat) (i : Nat) (H : Heap) (locs : List Loc) (ls : Array Slot), j + 1 ≤ i + n_10 → (i ≤ j) → xw D vwCl N ad B s.heap (va_up (va_up f q (.inr (3, [.ref (ad v), .int (nI j)]))) v (ai (ca 0) 200 (cpyTo g h i))) H locs → lv_has ls 3 [(0, .ref (ad q)), (1, .ref (ad o)), (2, .int (nI i))] → W p l e rmX2_copyFrom s m ([.ref (ad q), .ref (ad o)] : List Value).toArray below meth c H locs 0 0 (MQ below (xQv (fun u => u = va_up (va_up f q (.inr (3, [.ref (ad v), .int (nI j)]))) v (ai (ca 0) 200 (cpyTo g h j))) D N ad B) ([.ref (ad q), .ref (ad o)] : List Value).toArray s 0 0 (xA B)) (F0 m 10 ls []) := by
    intro n_10
    induction n_10 with
    | zero =>
      intro i H locs ls hm_10 hi hw hl
      exact absurd hm_10 (by omega)
    | succ n_10 ih_10 =>
      intro i H locs ls hm_10 hi hw hl
      have c_q := b_q
      have c_v := b_v
      have c_o := b_o
      have c_w := b_w
      obtain ⟨f_1, ef_1⟩ : ∃ z, z = va_up (va_up f q (.inr (3, [.ref (ad v), .int (nI j)]))) v (ai (ca 0) 200 (cpyTo g h i)) := ⟨_, rfl⟩
      have hw : xw D vwCl N ad B s.heap f_1 H locs := by rw [ef_1]; exact hw
      have c_q : f_1 q = .inr (3, [.ref (ad v), .int (nI j)]) := by rw [ef_1, va_up_ne _ _ (kd_ne' b_v b_q), va_up_self]
      have c_v : f_1 v = ai (ca 0) 200 (cpyTo g h i) := by rw [ef_1, va_up_self]
      refine lv_iload_n hx hb dX2_copyFrom_10 rfl (lv_at hl 2 rfl) ?_
      refine lv_aload_n hx hb dX2_copyFrom_11 rfl (lv_at hl 0 rfl) ?_
      refine x_get (ci := 3) (C := RX2) (T := TX2) (n := 2) (ref := RX2) hx hb hts hin_3 hown hK hw q l_q c_q rfl 1 (by decide) hf_15 (fun _ h => h) rfl dX2_copyFrom_12 ?_
      refine n_icge (tgt := 36) hx hb dX2_copyFrom_15 (by decide) (by omega) (by omega) (fun c_15 => ?_) (fun c_15 => ?_)
      · exact x_vret hx hb hr hlocks hw (by have ei : i = j := (by omega); subst ei; simp only [ef_1]) dX2_copyFrom_36
      · refine lv_aload_n hx hb dX2_copyFrom_18 rfl (lv_at hl 0 rfl) ?_
        refine x_get (ci := 3) (C := RX2) (T := TX2) (n := 2) (ref := RX2) hx hb hts hin_3 hown hK hw q l_q c_q rfl 0 (by decide) hf_9 (fun _ h => h) rfl dX2_copyFrom_19 ?_
        refine lv_iload_n hx hb dX2_copyFrom_22 rfl (lv_at hl 2 rfl) ?_
        refine lv_aload_n hx hb dX2_copyFrom_23 rfl (lv_at hl 1 rfl) ?_
        have c_o : f_1 o = .inr (3, [.ref (ad w), .int (nI j)]) := by rw [ef_1, va_up_ne _ _ (kd_ne' b_v b_o), va_up_ne _ _ (by omega)]; exact c_o
        refine x_get (ci := 3) (C := RX2) (T := TX2) (n := 2) (ref := RX2) hx hb hts hin_3 hown hK hw o l_o c_o rfl 0 (by decide) hf_9 (fun _ h => h) rfl dX2_copyFrom_24 ?_
        refine lv_iload_n hx hb dX2_copyFrom_27 rfl (lv_at hl 2 rfl) ?_
        have c_w : f_1 w = ai (ca 0) 200 h := by rw [ef_1, va_up_ne _ _ (by omega), va_up_ne _ _ (kd_ne b_q b_w)]; exact c_w
        refine x_iald (j := i) hx hb hK hw w 0 l_w c_w rfl rfl (by omega) (by decide) dX2_copyFrom_28 ?_
        refine lv_topi (fun x_2 ex_2 => ?_)
        refine x_iast (j := i) hx hb hK dd hw v 0 l_v c_v rfl rfl (by omega) (by decide) dX2_copyFrom_29 (fun H locs hw => ?_)
        obtain ⟨f_3, ef_3⟩ : ∃ z, z = va_up f_1 v (ai (ca 0) 200 (upd (cpyTo g h i) i x_2)) := ⟨_, rfl⟩
        have hw : xw D vwCl N ad B s.heap f_3 H locs := by rw [ef_3]; exact hw
        have c_v : f_3 v = ai (ca 0) 200 (upd (cpyTo g h i) i x_2) := va_up_of ef_3
        refine lv_iinc (v := nI (i + 1)) (lv' := [(2, .int (nI (i + 1))), (0, .ref (ad q)), (1, .ref (ad o))]) hx hb dX2_copyFrom_30 hl (k := 2) rfl (by rw [show Int32.ofInt 1 = nI 1 from rfl]; exact nI_add _ _) (by decide) rfl (fun ls hl => ?_)
        refine lv_goto (tgt := 10) hx hb dX2_copyFrom_33 (by decide) ?_
        have hw : xw D vwCl N ad B s.heap (va_up (va_up f q (.inr (3, [.ref (ad v), .int (nI j)]))) v (ai (ca 0) 200 (cpyTo g h (i + 1)))) H locs := by
          have ez : f_3 = va_up (va_up f q (.inr (3, [.ref (ad v), .int (nI j)]))) v (ai (ca 0) 200 (cpyTo g h (i + 1))) := by simp only [ef_3, ex_2, ef_1, up_aa, cp_step, cp_0, up_same]
          rw [← ez]; exact hw
        exact ih_10 (i + 1) _ _ _ (by omega) (by omega) hw (lv_sub hl [1, 2, 0] rfl)
  refine lv_aload_n hx hb dX2_copyFrom_0 rfl (lv_at hl 0 rfl) ?_
  refine lv_aload_n hx hb dX2_copyFrom_1 rfl (lv_at hl 1 rfl) ?_
  refine x_get (ci := 3) (C := RX2) (T := TX2) (n := 2) (ref := RX2) hx hb hts hin_3 hown hK hw o l_o c_o rfl 1 (by decide) hf_15 (fun _ h => h) rfl dX2_copyFrom_2 ?_
  refine x_put (ci := 3) (C := RX2) (T := TX2) (n := 2) (ref := RX2) (fs' := [.ref (ad v), .int (nI j)]) hx hb hts hin_3 tyX2 tyX2_ok nmX2 hown hK dd hw q l_q c_q rfl 1 (by decide) hf_15 (fun _ h => h) rfl rfl rfl (Nat.le_of_ble_eq_true rfl) rfl dX2_copyFrom_5 (fun H locs hw => ?_)
  obtain ⟨f_4, ef_4⟩ : ∃ z, z = va_up f q (.inr (3, [.ref (ad v), .int (nI j)])) := ⟨_, rfl⟩
  have hw : xw D vwCl N ad B s.heap f_4 H locs := by rw [ef_4]; exact hw
  have c_q : f_4 q = .inr (3, [.ref (ad v), .int (nI j)]) := va_up_of ef_4
  refine lv_iconst (v := nI 0) hx hb dX2_copyFrom_8 (by decide) ?_
  refine lv_istore_n (lv' := [(2, .int (nI 0)), (0, .ref (ad q)), (1, .ref (ad o))]) hx hb dX2_copyFrom_9 rfl hl (by decide) rfl (fun ls hl => ?_)
  have e0 : va_up f v (ai (ca 0) 200 g) = f := by rw [← b_v, up_same]
  have hw : xw D vwCl N ad B s.heap (va_up (va_up f q (.inr (3, [.ref (ad v), .int (nI j)]))) v (ai (ca 0) 200 (cpyTo g h 0))) H locs := by
    have ez : f_4 = va_up (va_up f q (.inr (3, [.ref (ad v), .int (nI j)]))) v (ai (ca 0) 200 (cpyTo g h 0)) := by simp only [ef_4, cp_0, up_swap _ _ _ (kd_ne b_q b_v).symm, e0]
    rw [← ez]; exact hw
  exact P_10 ((j + 1)) 0 _ _ _ (by omega) (by omega) hw (lv_sub hl [1, 2, 0] rfl)
end
section
abbrev rmX1_smallSigma0 : Room := { frames := 0, cells := 0, slots := 0, locals := 0 }

set_option maxHeartbeats 4000000 in
set_option maxRecDepth 100000 in
theorem k_X1_smallSigma0 (l : Launch) (D : va_G) (ca : Nat → ClassId) (N : Nat) (ad : Nat → Nat) (B tR tK : Nat) (f : Nat → va_E) (dd : xD N ad B) (x : Int32)    : xMi l yX1_smallSigma0 wsX1_smallSigma0 rmX1_smallSigma0 [.int x] D ca N ad B tR tK f (fun r u => sg0 x = r ∧ f = u) := by
  refine x_open (cc := cX1_smallSigma0) (maxL := 1) (ret := (some .int)) (by decide) rfl (Nat.le_of_ble_eq_true rfl) ?_
  intro p e s m below meth c ls hx hb hml hown hts hr hlocks hnm hB hK hE hw hl
  have hown : s.vm.findClass RX1 = some m.cls := hown
  have hl : lv_has ls 1 [(0, .int x)] := hl
  refine lv_iload_n hx hb dX1_smallSigma0_0 rfl (lv_at hl 0 rfl) ?_
  refine lv_bipush (v := nI 7) hx hb dX1_smallSigma0_1 (by decide) ?_
  refine n_iushr hx hb dX1_smallSigma0_3 ?_
  refine lv_iload_n hx hb dX1_smallSigma0_4 rfl (lv_at hl 0 rfl) ?_
  refine lv_bipush (v := nI 25) hx hb dX1_smallSigma0_5 (by decide) ?_
  refine lv_ishl hx hb dX1_smallSigma0_7 ?_
  refine lv_ior hx hb dX1_smallSigma0_8 ?_
  refine lv_iload_n hx hb dX1_smallSigma0_9 rfl (lv_at hl 0 rfl) ?_
  refine lv_bipush (v := nI 18) hx hb dX1_smallSigma0_10 (by decide) ?_
  refine n_iushr hx hb dX1_smallSigma0_12 ?_
  refine lv_iload_n hx hb dX1_smallSigma0_13 rfl (lv_at hl 0 rfl) ?_
  refine lv_bipush (v := nI 14) hx hb dX1_smallSigma0_14 (by decide) ?_
  refine lv_ishl hx hb dX1_smallSigma0_16 ?_
  refine lv_ior hx hb dX1_smallSigma0_17 ?_
  refine lv_ixor hx hb dX1_smallSigma0_18 ?_
  refine lv_iload_n hx hb dX1_smallSigma0_19 rfl (lv_at hl 0 rfl) ?_
  refine lv_iconst (v := nI 3) hx hb dX1_smallSigma0_20 (by decide) ?_
  refine n_iushr hx hb dX1_smallSigma0_21 ?_
  refine lv_ixor hx hb dX1_smallSigma0_22 ?_
  exact x_iret hx hb hr hlocks hw ⟨rfl, rfl⟩ dX1_smallSigma0_23

abbrev rmX1_smallSigma1 : Room := { frames := 0, cells := 0, slots := 0, locals := 0 }

set_option maxHeartbeats 4000000 in
set_option maxRecDepth 100000 in
theorem k_X1_smallSigma1 (l : Launch) (D : va_G) (ca : Nat → ClassId) (N : Nat) (ad : Nat → Nat) (B tR tK : Nat) (f : Nat → va_E) (dd : xD N ad B) (x : Int32)    : xMi l yX1_smallSigma1 wsX1_smallSigma1 rmX1_smallSigma1 [.int x] D ca N ad B tR tK f (fun r u => sg1 x = r ∧ f = u) := by
  refine x_open (cc := cX1_smallSigma1) (maxL := 1) (ret := (some .int)) (by decide) rfl (Nat.le_of_ble_eq_true rfl) ?_
  intro p e s m below meth c ls hx hb hml hown hts hr hlocks hnm hB hK hE hw hl
  have hown : s.vm.findClass RX1 = some m.cls := hown
  have hl : lv_has ls 1 [(0, .int x)] := hl
  refine lv_iload_n hx hb dX1_smallSigma1_0 rfl (lv_at hl 0 rfl) ?_
  refine lv_bipush (v := nI 17) hx hb dX1_smallSigma1_1 (by decide) ?_
  refine n_iushr hx hb dX1_smallSigma1_3 ?_
  refine lv_iload_n hx hb dX1_smallSigma1_4 rfl (lv_at hl 0 rfl) ?_
  refine lv_bipush (v := nI 15) hx hb dX1_smallSigma1_5 (by decide) ?_
  refine lv_ishl hx hb dX1_smallSigma1_7 ?_
  refine lv_ior hx hb dX1_smallSigma1_8 ?_
  refine lv_iload_n hx hb dX1_smallSigma1_9 rfl (lv_at hl 0 rfl) ?_
  refine lv_bipush (v := nI 19) hx hb dX1_smallSigma1_10 (by decide) ?_
  refine n_iushr hx hb dX1_smallSigma1_12 ?_
  refine lv_iload_n hx hb dX1_smallSigma1_13 rfl (lv_at hl 0 rfl) ?_
  refine lv_bipush (v := nI 13) hx hb dX1_smallSigma1_14 (by decide) ?_
  refine lv_ishl hx hb dX1_smallSigma1_16 ?_
  refine lv_ior hx hb dX1_smallSigma1_17 ?_
  refine lv_ixor hx hb dX1_smallSigma1_18 ?_
  refine lv_iload_n hx hb dX1_smallSigma1_19 rfl (lv_at hl 0 rfl) ?_
  refine lv_bipush (v := nI 10) hx hb dX1_smallSigma1_20 (by decide) ?_
  refine n_iushr hx hb dX1_smallSigma1_22 ?_
  refine lv_ixor hx hb dX1_smallSigma1_23 ?_
  exact x_iret hx hb hr hlocks hw ⟨rfl, rfl⟩ dX1_smallSigma1_24

abbrev rmX1_bigSigma0 : Room := { frames := 0, cells := 0, slots := 0, locals := 0 }

set_option maxHeartbeats 4000000 in
set_option maxRecDepth 100000 in
theorem k_X1_bigSigma0 (l : Launch) (D : va_G) (ca : Nat → ClassId) (N : Nat) (ad : Nat → Nat) (B tR tK : Nat) (f : Nat → va_E) (dd : xD N ad B) (x : Int32)    : xMi l yX1_bigSigma0 wsX1_bigSigma0 rmX1_bigSigma0 [.int x] D ca N ad B tR tK f (fun r u => bs0 x = r ∧ f = u) := by
  refine x_open (cc := cX1_bigSigma0) (maxL := 1) (ret := (some .int)) (by decide) rfl (Nat.le_of_ble_eq_true rfl) ?_
  intro p e s m below meth c ls hx hb hml hown hts hr hlocks hnm hB hK hE hw hl
  have hown : s.vm.findClass RX1 = some m.cls := hown
  have hl : lv_has ls 1 [(0, .int x)] := hl
  refine lv_iload_n hx hb dX1_bigSigma0_0 rfl (lv_at hl 0 rfl) ?_
  refine lv_iconst (v := nI 2) hx hb dX1_bigSigma0_1 (by decide) ?_
  refine n_iushr hx hb dX1_bigSigma0_2 ?_
  refine lv_iload_n hx hb dX1_bigSigma0_3 rfl (lv_at hl 0 rfl) ?_
  refine lv_bipush (v := nI 30) hx hb dX1_bigSigma0_4 (by decide) ?_
  refine lv_ishl hx hb dX1_bigSigma0_6 ?_
  refine lv_ior hx hb dX1_bigSigma0_7 ?_
  refine lv_iload_n hx hb dX1_bigSigma0_8 rfl (lv_at hl 0 rfl) ?_
  refine lv_bipush (v := nI 13) hx hb dX1_bigSigma0_9 (by decide) ?_
  refine n_iushr hx hb dX1_bigSigma0_11 ?_
  refine lv_iload_n hx hb dX1_bigSigma0_12 rfl (lv_at hl 0 rfl) ?_
  refine lv_bipush (v := nI 19) hx hb dX1_bigSigma0_13 (by decide) ?_
  refine lv_ishl hx hb dX1_bigSigma0_15 ?_
  refine lv_ior hx hb dX1_bigSigma0_16 ?_
  refine lv_ixor hx hb dX1_bigSigma0_17 ?_
  refine lv_iload_n hx hb dX1_bigSigma0_18 rfl (lv_at hl 0 rfl) ?_
  refine lv_bipush (v := nI 22) hx hb dX1_bigSigma0_19 (by decide) ?_
  refine n_iushr hx hb dX1_bigSigma0_21 ?_
  refine lv_iload_n hx hb dX1_bigSigma0_22 rfl (lv_at hl 0 rfl) ?_
  refine lv_bipush (v := nI 10) hx hb dX1_bigSigma0_23 (by decide) ?_
  refine lv_ishl hx hb dX1_bigSigma0_25 ?_
  refine lv_ior hx hb dX1_bigSigma0_26 ?_
  refine lv_ixor hx hb dX1_bigSigma0_27 ?_
  exact x_iret hx hb hr hlocks hw ⟨rfl, rfl⟩ dX1_bigSigma0_28

abbrev rmX1_bigSigma1 : Room := { frames := 0, cells := 0, slots := 0, locals := 0 }

set_option maxHeartbeats 4000000 in
set_option maxRecDepth 100000 in
theorem k_X1_bigSigma1 (l : Launch) (D : va_G) (ca : Nat → ClassId) (N : Nat) (ad : Nat → Nat) (B tR tK : Nat) (f : Nat → va_E) (dd : xD N ad B) (x : Int32)    : xMi l yX1_bigSigma1 wsX1_bigSigma1 rmX1_bigSigma1 [.int x] D ca N ad B tR tK f (fun r u => bs1 x = r ∧ f = u) := by
  refine x_open (cc := cX1_bigSigma1) (maxL := 1) (ret := (some .int)) (by decide) rfl (Nat.le_of_ble_eq_true rfl) ?_
  intro p e s m below meth c ls hx hb hml hown hts hr hlocks hnm hB hK hE hw hl
  have hown : s.vm.findClass RX1 = some m.cls := hown
  have hl : lv_has ls 1 [(0, .int x)] := hl
  refine lv_iload_n hx hb dX1_bigSigma1_0 rfl (lv_at hl 0 rfl) ?_
  refine lv_bipush (v := nI 6) hx hb dX1_bigSigma1_1 (by decide) ?_
  refine n_iushr hx hb dX1_bigSigma1_3 ?_
  refine lv_iload_n hx hb dX1_bigSigma1_4 rfl (lv_at hl 0 rfl) ?_
  refine lv_bipush (v := nI 26) hx hb dX1_bigSigma1_5 (by decide) ?_
  refine lv_ishl hx hb dX1_bigSigma1_7 ?_
  refine lv_ior hx hb dX1_bigSigma1_8 ?_
  refine lv_iload_n hx hb dX1_bigSigma1_9 rfl (lv_at hl 0 rfl) ?_
  refine lv_bipush (v := nI 11) hx hb dX1_bigSigma1_10 (by decide) ?_
  refine n_iushr hx hb dX1_bigSigma1_12 ?_
  refine lv_iload_n hx hb dX1_bigSigma1_13 rfl (lv_at hl 0 rfl) ?_
  refine lv_bipush (v := nI 21) hx hb dX1_bigSigma1_14 (by decide) ?_
  refine lv_ishl hx hb dX1_bigSigma1_16 ?_
  refine lv_ior hx hb dX1_bigSigma1_17 ?_
  refine lv_ixor hx hb dX1_bigSigma1_18 ?_
  refine lv_iload_n hx hb dX1_bigSigma1_19 rfl (lv_at hl 0 rfl) ?_
  refine lv_bipush (v := nI 25) hx hb dX1_bigSigma1_20 (by decide) ?_
  refine n_iushr hx hb dX1_bigSigma1_22 ?_
  refine lv_iload_n hx hb dX1_bigSigma1_23 rfl (lv_at hl 0 rfl) ?_
  refine lv_bipush (v := nI 7) hx hb dX1_bigSigma1_24 (by decide) ?_
  refine lv_ishl hx hb dX1_bigSigma1_26 ?_
  refine lv_ior hx hb dX1_bigSigma1_27 ?_
  refine lv_ixor hx hb dX1_bigSigma1_28 ?_
  exact x_iret hx hb hr hlocks hw ⟨rfl, rfl⟩ dX1_bigSigma1_29

abbrev rmX1_paddedWord : Room := { frames := 1, cells := 0, slots := 0, locals := 21 }

set_option maxHeartbeats 4000000 in
set_option maxRecDepth 100000 in
theorem k_X1_paddedWord (l : Launch) (D : va_G) (ca : Nat → ClassId) (N : Nat) (ad : Nat → Nat) (B tR tK : Nat) (f : Nat → va_E) (dd : xD N ad B) (o : Nat) (v : Nat) (sz : Nat) (g : Nat → Int32) (j : Nat) (l_o : o < N) (c_o : f o = .inr (3, [.ref (ad v), .int (nI sz)])) (l_v : v < N) (c_v : f v = ai (ca 0) 200 g)  (hn : sz ≤ 200) (hj : j ≤ 100000) : xMi l yX1_paddedWord wsX1_paddedWord rmX1_paddedWord [.ref (ad o), .int (nI j)] D ca N ad B tR tK f (fun r u => pw sz g j 4 = r ∧ f = u) := by
  refine x_open (cc := cX1_paddedWord) (maxL := 6) (ret := (some .int)) (by decide) rfl (Nat.le_of_ble_eq_true rfl) ?_
  intro p e s m below meth c ls hx hb hml hown hts hr hlocks hnm hB hK hE hw hl
  have hown : s.vm.findClass RX1 = some m.cls := hown
  have hl : lv_has ls 6 [(0, .ref (ad o)), (1, .int (nI j))] := hl
  have b_o := c_o
  have b_v := c_v
  have P_10 : ∀ (n_10 : Nat) (i : Nat) (H : Heap) (locs : List Loc) (ls : Array Slot), 4 + 1 ≤ i + n_10 → (i ≤ 4) → xw D vwCl N ad B s.heap (f) H locs → lv_has ls 6 [(0, .ref (ad o)), (1, .int (nI j)), (2, .int (nI sz)), (3, .int (pw sz g j i)), (4, .int (nI i))] → W p l e rmX1_paddedWord s m ([.ref (ad o), .int (nI j)] : List Value).toArray below meth c H locs 0 0 (MQ below (xQi (fun r u => pw sz g j 4 = r ∧ f = u) D N ad B) ([.ref (ad o), .int (nI j)] : List Value).toArray s 0 0 (xA B)) (F0 m 10 ls []) := by
    intro n_10
    induction n_10 with
    | zero =>
      intro i H locs ls hm_10 hi hw hl
      exact absurd hm_10 (by omega)
    | succ n_10 ih_10 =>
      intro i H locs ls hm_10 hi hw hl
      have c_o := b_o
      have c_v := b_v
      refine lv_iload hx hb dX1_paddedWord_10 (lv_at hl 4 rfl) ?_
      refine lv_iconst (v := nI 4) hx hb dX1_paddedWord_12 (by decide) ?_
      refine n_icge (tgt := 52) hx hb dX1_paddedWord_13 (by decide) (by omega) (by omega) (fun c_13 => ?_) (fun c_13 => ?_)
      · refine lv_iload_n hx hb dX1_paddedWord_52 rfl (lv_at hl 3 rfl) ?_
        exact x_iret hx hb hr hlocks hw (by have e4 : i = 4 := (by omega); subst e4; exact ⟨rfl, rfl⟩) dX1_paddedWord_53
      · refine lv_iload_n hx hb dX1_paddedWord_16 rfl (lv_at hl 1 rfl) ?_
        refine lv_iload hx hb dX1_paddedWord_17 (lv_at hl 4 rfl) ?_
        refine n_iadd hx hb dX1_paddedWord_19 ?_
        refine lv_istore (lv' := [(5, .int (nI (j + i))), (0, .ref (ad o)), (1, .int (nI j)), (2, .int (nI sz)), (3, .int (pw sz g j i)), (4, .int (nI i))]) hx hb dX1_paddedWord_20 hl (by decide) rfl (fun ls hl => ?_)
        refine lv_iload_n hx hb dX1_paddedWord_22 rfl (lv_at hl 4 rfl) ?_
        refine lv_bipush (v := nI 8) hx hb dX1_paddedWord_23 (by decide) ?_
        refine lv_ishl hx hb dX1_paddedWord_25 ?_
        refine lv_iload hx hb dX1_paddedWord_26 (lv_at hl 0 rfl) ?_
        refine lv_iload_n hx hb dX1_paddedWord_28 rfl (lv_at hl 3 rfl) ?_
        refine n_icne (tgt := 38) hx hb dX1_paddedWord_29 (by decide) (by omega) (by omega) (fun c_29 => ?_) (fun c_29 => ?_)
        · rcases Nat.lt_or_ge (j + i) sz with hlt | hge
          · refine lv_aload_n hx hb dX1_paddedWord_38 rfl (lv_at hl 1 rfl) ?_
            refine lv_iload hx hb dX1_paddedWord_39 (lv_at hl 0 rfl) ?_
            refine x_Vi (q := o) (As := [.int (nI (j + i))]) (rest := [.int ((pw sz g j i) <<< ((nI 8) &&& 31))]) ⟨hx, hb, hml, hown, hts⟩ (k_X2_value_in l D ca N ad B tR tK f dd o v sz (j + i) g l_o c_o l_v c_v  (by omega) (by omega)) (cwV 1 hts gX1_paddedWord_X2_value rfl rfl rfl (by decide +kernel) ⟨Nat.le_of_ble_eq_true rfl, Nat.le_of_ble_eq_true rfl⟩) hK hE hB hw l_o c_o rfl rfl rfl rfl hl.1 (Nat.le_of_ble_eq_true rfl) ⟨Nat.zero_le _, Nat.zero_le _⟩ dX1_paddedWord_41 (fun r_2 f_1 H locs hp hw => ?_)
            obtain ⟨er, eu⟩ := hp
            rw [← er]
            rw [← eu] at hw
            refine lv_ior hx hb dX1_paddedWord_44 ?_
            refine lv_topi (fun x_3 ex_3 => ?_)
            refine lv_istore_n (lv' := [(3, .int x_3), (5, .int (nI (j + i))), (0, .ref (ad o)), (1, .int (nI j)), (2, .int (nI sz)), (4, .int (nI i))]) hx hb dX1_paddedWord_45 rfl hl (by decide) rfl (fun ls hl => ?_)
            refine lv_iinc (v := nI (i + 1)) (lv' := [(4, .int (nI (i + 1))), (3, .int x_3), (5, .int (nI (j + i))), (0, .ref (ad o)), (1, .int (nI j)), (2, .int (nI sz))]) hx hb dX1_paddedWord_46 hl (k := 5) rfl (by rw [show Int32.ofInt 1 = nI 1 from rfl]; exact nI_add _ _) (by decide) rfl (fun ls hl => ?_)
            refine lv_goto (tgt := 10) hx hb dX1_paddedWord_49 (by decide) ?_
            exact ih_10 (i + 1) _ _ _ (by omega) (by omega) hw (by have hl := lv_sub (l' := [(0, .ref (ad o)), (1, .int (nI j)), (2, .int (nI sz)), (3, .int x_3), (4, .int (nI (i + 1)))]) hl [3, 4, 5, 1, 0] rfl; rw [ex_3] at hl; first | (rw [pw_eq sz g j i c_29]; exact hl) | (rw [pw_in sz g j i hlt]; exact hl) | (rw [pw_out sz g j i (by omega)]; exact hl))
          · refine lv_aload_n hx hb dX1_paddedWord_38 rfl (lv_at hl 1 rfl) ?_
            refine lv_iload hx hb dX1_paddedWord_39 (lv_at hl 0 rfl) ?_
            refine x_Vi (q := o) (As := [.int (nI (j + i))]) (rest := [.int ((pw sz g j i) <<< ((nI 8) &&& 31))]) ⟨hx, hb, hml, hown, hts⟩ (k_X2_value_out l D ca N ad B tR tK f dd o v sz (nI (j + i)) l_o c_o  (Or.inr (nI_le hge (by omega)))) (cwV 1 hts gX1_paddedWord_X2_value rfl rfl rfl (by decide +kernel) ⟨Nat.le_of_ble_eq_true rfl, Nat.le_of_ble_eq_true rfl⟩) hK hE hB hw l_o c_o rfl rfl rfl rfl hl.1 (Nat.le_of_ble_eq_true rfl) ⟨Nat.zero_le _, Nat.zero_le _⟩ dX1_paddedWord_41 (fun r_5 f_4 H locs hp hw => ?_)
            obtain ⟨er, eu⟩ := hp
            rw [← er]
            rw [← eu] at hw
            refine lv_ior hx hb dX1_paddedWord_44 ?_
            refine lv_topi (fun x_6 ex_6 => ?_)
            refine lv_istore_n (lv' := [(3, .int x_6), (5, .int (nI (j + i))), (0, .ref (ad o)), (1, .int (nI j)), (2, .int (nI sz)), (4, .int (nI i))]) hx hb dX1_paddedWord_45 rfl hl (by decide) rfl (fun ls hl => ?_)
            refine lv_iinc (v := nI (i + 1)) (lv' := [(4, .int (nI (i + 1))), (3, .int x_6), (5, .int (nI (j + i))), (0, .ref (ad o)), (1, .int (nI j)), (2, .int (nI sz))]) hx hb dX1_paddedWord_46 hl (k := 5) rfl (by rw [show Int32.ofInt 1 = nI 1 from rfl]; exact nI_add _ _) (by decide) rfl (fun ls hl => ?_)
            refine lv_goto (tgt := 10) hx hb dX1_paddedWord_49 (by decide) ?_
            exact ih_10 (i + 1) _ _ _ (by omega) (by omega) hw (by have hl := lv_sub (l' := [(0, .ref (ad o)), (1, .int (nI j)), (2, .int (nI sz)), (3, .int x_6), (4, .int (nI (i + 1)))]) hl [3, 4, 5, 1, 0] rfl; rw [ex_6] at hl; first | (rw [pw_eq sz g j i c_29]; exact hl) | (rw [pw_in sz g j i hlt]; exact hl) | (rw [pw_out sz g j i (by omega)]; exact hl))
        · refine lv_sipush (v := nI 128) hx hb dX1_paddedWord_32 (by decide) ?_
          refine lv_goto (tgt := 44) hx hb dX1_paddedWord_35 (by decide) ?_
          refine lv_ior hx hb dX1_paddedWord_44 ?_
          refine lv_topi (fun x_7 ex_7 => ?_)
          refine lv_istore_n (lv' := [(3, .int x_7), (5, .int (nI (j + i))), (0, .ref (ad o)), (1, .int (nI j)), (2, .int (nI sz)), (4, .int (nI i))]) hx hb dX1_paddedWord_45 rfl hl (by decide) rfl (fun ls hl => ?_)
          refine lv_iinc (v := nI (i + 1)) (lv' := [(4, .int (nI (i + 1))), (3, .int x_7), (5, .int (nI (j + i))), (0, .ref (ad o)), (1, .int (nI j)), (2, .int (nI sz))]) hx hb dX1_paddedWord_46 hl (k := 5) rfl (by rw [show Int32.ofInt 1 = nI 1 from rfl]; exact nI_add _ _) (by decide) rfl (fun ls hl => ?_)
          refine lv_goto (tgt := 10) hx hb dX1_paddedWord_49 (by decide) ?_
          exact ih_10 (i + 1) _ _ _ (by omega) (by omega) hw (by have hl := lv_sub (l' := [(0, .ref (ad o)), (1, .int (nI j)), (2, .int (nI sz)), (3, .int x_7), (4, .int (nI (i + 1)))]) hl [3, 4, 5, 1, 0] rfl; rw [ex_7] at hl; first | (rw [pw_eq sz g j i c_29]; exact hl) | (rw [pw_in sz g j i hlt]; exact hl) | (rw [pw_out sz g j i (by omega)]; exact hl))
  refine lv_aload_n hx hb dX1_paddedWord_0 rfl (lv_at hl 0 rfl) ?_
  refine x_Vi (q := o) (As := []) (rest := []) ⟨hx, hb, hml, hown, hts⟩ (k_X2_count l D ca N ad B tR tK f dd o v sz l_o c_o  ) (cwV 0 hts gX1_paddedWord_X2_count rfl rfl rfl (by decide +kernel) ⟨Nat.le_of_ble_eq_true rfl, Nat.le_of_ble_eq_true rfl⟩) hK hE hB hw l_o c_o rfl rfl rfl rfl hl.1 (Nat.le_of_ble_eq_true rfl) ⟨Nat.zero_le _, Nat.zero_le _⟩ dX1_paddedWord_1 (fun r_9 f_8 H locs hp hw => ?_)
  obtain ⟨er, eu⟩ := hp
  rw [← er]
  rw [← eu] at hw
  refine lv_istore_n (lv' := [(2, .int (nI sz)), (0, .ref (ad o)), (1, .int (nI j))]) hx hb dX1_paddedWord_4 rfl hl (by decide) rfl (fun ls hl => ?_)
  refine lv_iconst (v := nI 0) hx hb dX1_paddedWord_5 (by decide) ?_
  refine lv_istore_n (lv' := [(3, .int (nI 0)), (2, .int (nI sz)), (0, .ref (ad o)), (1, .int (nI j))]) hx hb dX1_paddedWord_6 rfl hl (by decide) rfl (fun ls hl => ?_)
  refine lv_iconst (v := nI 0) hx hb dX1_paddedWord_7 (by decide) ?_
  refine lv_istore (lv' := [(4, .int (nI 0)), (3, .int (nI 0)), (2, .int (nI sz)), (0, .ref (ad o)), (1, .int (nI j))]) hx hb dX1_paddedWord_8 hl (by decide) rfl (fun ls hl => ?_)
  exact P_10 5 0 _ _ _ (by omega) (by omega) hw (lv_sub hl [3, 4, 2, 1, 0] rfl)

abbrev rmX1_widen : Room := { frames := 1, cells := 0, slots := 0, locals := 20 }

set_option maxHeartbeats 4000000 in
set_option maxRecDepth 100000 in
theorem k_X1_widen (l : Launch) (D : va_G) (ca : Nat → ClassId) (N : Nat) (ad : Nat → Nat) (B tR tK : Nat) (f : Nat → va_E) (dd : xD N ad B) (q : Nat) (a : Nat) (b : Nat) (w : Nat → Int32) (l_q : q < N) (c_q : f q = .inr (2, [.ref (ad a), .ref (ad b)])) (l_b : b < N) (c_b : f b = ai (ca 0) 64 w)   : xMv l yX1_widen wsX1_widen rmX1_widen [.ref (ad q)] D ca N ad B tR tK f (fun u => u = va_up f b (ai (ca 0) 64 (wid w 48))) := by
  refine x_open (cc := cX1_widen) (maxL := 2) (ret := none) (by decide) rfl (Nat.le_of_ble_eq_true rfl) ?_
  intro p e s m below meth c ls hx hb hml hown hts hr hlocks hnm hB hK hE hw hl
  have hown : s.vm.findClass RX1 = some m.cls := hown
  have hl : lv_has ls 2 [(0, .ref (ad q))] := hl
  have hin_2 : ∀ w ∈ u_ws RX1 TX1 2, w ∈ wsX1_widen := by decide +kernel
  have hf_15 := hts (.fieldLink RX1 15 "FixityRows$LongDigest" "w" "[I") (by decide +kernel)
  have b_q := c_q
  have b_b := c_b
  have P_3 : ∀ (n_3 : Nat) (i : Nat) (H : Heap) (locs : List Loc) (ls : Array Slot), 64 + 1 ≤ i + n_3 → (16 ≤ i) → (i ≤ 64) → xw D vwCl N ad B s.heap (va_up f b (ai (ca 0) 64 (wid w (i - 16)))) H locs → lv_has ls 2 [(0, .ref (ad q)), (1, .int (nI i))] → W p l e rmX1_widen s m ([.ref (ad q)] : List Value).toArray below meth c H locs 0 0 (MQ below (xQv (fun u => u = va_up f b (ai (ca 0) 64 (wid w 48))) D N ad B) ([.ref (ad q)] : List Value).toArray s 0 0 (xA B)) (F0 m 3 ls []) := by
    intro n_3
    induction n_3 with
    | zero =>
      intro i H locs ls hm_3 hi1 hi hw hl
      exact absurd hm_3 (by omega)
    | succ n_3 ih_3 =>
      intro i H locs ls hm_3 hi1 hi hw hl
      have c_q := b_q
      have c_b := b_b
      obtain ⟨f_1, ef_1⟩ : ∃ z, z = va_up f b (ai (ca 0) 64 (wid w (i - 16))) := ⟨_, rfl⟩
      have hw : xw D vwCl N ad B s.heap f_1 H locs := by rw [ef_1]; exact hw
      have c_b : f_1 b = ai (ca 0) 64 (wid w (i - 16)) := by rw [ef_1, va_up_self]
      refine lv_iload_n hx hb dX1_widen_3 rfl (lv_at hl 1 rfl) ?_
      refine lv_bipush (v := nI 64) hx hb dX1_widen_4 (by decide) ?_
      refine n_icge (tgt := 65) hx hb dX1_widen_6 (by decide) (by omega) (by omega) (fun c_6 => ?_) (fun c_6 => ?_)
      · exact x_vret hx hb hr hlocks hw (by have ei : i = 64 := (by omega); subst ei; simp only [ef_1]) dX1_widen_65
      · refine lv_aload_n hx hb dX1_widen_9 rfl (lv_at hl 0 rfl) ?_
        have c_q : f_1 q = .inr (2, [.ref (ad a), .ref (ad b)]) := by rw [ef_1, va_up_ne _ _ (kd_ne' b_b b_q)]; exact c_q
        refine x_get (ci := 2) (C := RX1) (T := TX1) (n := 2) (ref := RX1) hx hb hts hin_2 hown hK hw q l_q c_q rfl 1 (by decide) hf_15 (fun _ h => h) rfl dX1_widen_10 ?_
        refine lv_iload_n hx hb dX1_widen_13 rfl (lv_at hl 1 rfl) ?_
        refine lv_aload_n hx hb dX1_widen_14 rfl (lv_at hl 0 rfl) ?_
        refine x_get (ci := 2) (C := RX1) (T := TX1) (n := 2) (ref := RX1) hx hb hts hin_2 hown hK hw q l_q c_q rfl 1 (by decide) hf_15 (fun _ h => h) rfl dX1_widen_15 ?_
        refine lv_iload_n hx hb dX1_widen_18 rfl (lv_at hl 1 rfl) ?_
        refine lv_bipush (v := nI 16) hx hb dX1_widen_19 (by decide) ?_
        refine n_isub hx hb dX1_widen_21 (by omega) ?_
        refine x_iald (j := i - 16) hx hb hK hw b 0 l_b c_b rfl rfl (by omega) (by decide) dX1_widen_22 ?_
        refine lv_aload_n hx hb dX1_widen_23 rfl (lv_at hl 0 rfl) ?_
        refine x_get (ci := 2) (C := RX1) (T := TX1) (n := 2) (ref := RX1) hx hb hts hin_2 hown hK hw q l_q c_q rfl 1 (by decide) hf_15 (fun _ h => h) rfl dX1_widen_24 ?_
        refine lv_iload_n hx hb dX1_widen_27 rfl (lv_at hl 1 rfl) ?_
        refine lv_bipush (v := nI 15) hx hb dX1_widen_28 (by decide) ?_
        refine n_isub hx hb dX1_widen_30 (by omega) ?_
        refine x_iald (j := i - 15) hx hb hK hw b 0 l_b c_b rfl rfl (by omega) (by decide) dX1_widen_31 ?_
        refine lv_topi (fun x_2 ex_2 => ?_)
        refine x_Si (As := [.int x_2]) (rest := [.int ((wid w (i - 16)) (i - 16)), .int (nI i), .ref (ad b)]) ⟨hx, hb, hml, hown, hts⟩ (k_X1_smallSigma0 l D ca N ad B tR tK f_1 dd x_2   ) (va_cwS 1 hts gX1_widen_X1_smallSigma0 rfl rfl rfl (by decide +kernel) ⟨Nat.le_of_ble_eq_true rfl, Nat.le_of_ble_eq_true rfl⟩) hK hE hB hw rfl rfl hl.1 (Nat.le_of_ble_eq_true rfl) ⟨Nat.zero_le _, Nat.zero_le _⟩ dX1_widen_32 (fun r_4 f_3 H locs hp hw => ?_)
        obtain ⟨er, eu⟩ := hp
        rw [← er]
        rw [← eu] at hw
        refine lv_iadd hx hb dX1_widen_35 ?_
        refine lv_aload_n hx hb dX1_widen_36 rfl (lv_at hl 0 rfl) ?_
        refine x_get (ci := 2) (C := RX1) (T := TX1) (n := 2) (ref := RX1) hx hb hts hin_2 hown hK hw q l_q c_q rfl 1 (by decide) hf_15 (fun _ h => h) rfl dX1_widen_37 ?_
        refine lv_iload_n hx hb dX1_widen_40 rfl (lv_at hl 1 rfl) ?_
        refine lv_bipush (v := nI 7) hx hb dX1_widen_41 (by decide) ?_
        refine n_isub hx hb dX1_widen_43 (by omega) ?_
        refine x_iald (j := i - 7) hx hb hK hw b 0 l_b c_b rfl rfl (by omega) (by decide) dX1_widen_44 ?_
        refine lv_iadd hx hb dX1_widen_45 ?_
        refine lv_aload_n hx hb dX1_widen_46 rfl (lv_at hl 0 rfl) ?_
        refine x_get (ci := 2) (C := RX1) (T := TX1) (n := 2) (ref := RX1) hx hb hts hin_2 hown hK hw q l_q c_q rfl 1 (by decide) hf_15 (fun _ h => h) rfl dX1_widen_47 ?_
        refine lv_iload_n hx hb dX1_widen_50 rfl (lv_at hl 1 rfl) ?_
        refine lv_iconst (v := nI 2) hx hb dX1_widen_51 (by decide) ?_
        refine n_isub hx hb dX1_widen_52 (by omega) ?_
        refine x_iald (j := i - 2) hx hb hK hw b 0 l_b c_b rfl rfl (by omega) (by decide) dX1_widen_53 ?_
        refine lv_topi (fun x_5 ex_5 => ?_)
        refine x_Si (As := [.int x_5]) (rest := [.int ((((wid w (i - 16)) (i - 16)) + (sg0 x_2)) + ((wid w (i - 16)) (i - 7))), .int (nI i), .ref (ad b)]) ⟨hx, hb, hml, hown, hts⟩ (k_X1_smallSigma1 l D ca N ad B tR tK f_1 dd x_5   ) (va_cwS 1 hts gX1_widen_X1_smallSigma1 rfl rfl rfl (by decide +kernel) ⟨Nat.le_of_ble_eq_true rfl, Nat.le_of_ble_eq_true rfl⟩) hK hE hB hw rfl rfl hl.1 (Nat.le_of_ble_eq_true rfl) ⟨Nat.zero_le _, Nat.zero_le _⟩ dX1_widen_54 (fun r_7 f_6 H locs hp hw => ?_)
        obtain ⟨er, eu⟩ := hp
        rw [← er]
        rw [← eu] at hw
        refine lv_iadd hx hb dX1_widen_57 ?_
        refine lv_topi (fun x_8 ex_8 => ?_)
        refine x_iast (j := i) hx hb hK dd hw b 0 l_b c_b rfl rfl (by omega) (by decide) dX1_widen_58 (fun H locs hw => ?_)
        obtain ⟨f_9, ef_9⟩ : ∃ z, z = va_up f_1 b (ai (ca 0) 64 (upd (wid w (i - 16)) i x_8)) := ⟨_, rfl⟩
        have hw : xw D vwCl N ad B s.heap f_9 H locs := by rw [ef_9]; exact hw
        have c_b : f_9 b = ai (ca 0) 64 (upd (wid w (i - 16)) i x_8) := va_up_of ef_9
        refine lv_iinc (v := nI (i + 1)) (lv' := [(1, .int (nI (i + 1))), (0, .ref (ad q))]) hx hb dX1_widen_59 hl (k := 1) rfl (by rw [show Int32.ofInt 1 = nI 1 from rfl]; exact nI_add _ _) (by decide) rfl (fun ls hl => ?_)
        refine lv_goto (tgt := 3) hx hb dX1_widen_62 (by decide) ?_
        have hw : xw D vwCl N ad B s.heap (va_up f b (ai (ca 0) 64 (wid w ((i + 1) - 16)))) H locs := by
          have ez : f_9 = va_up f b (ai (ca 0) 64 (wid w ((i + 1) - 16))) := by simp only [ef_9, ex_8, ex_5, ex_2, ef_1, up_aa]; rw [← wid_step w i hi1]; rfl
          rw [← ez]; exact hw
        exact ih_3 (i + 1) _ _ _ (by omega) (by omega) (by omega) hw (lv_sub hl [1, 0] rfl)
  refine lv_bipush (v := nI 16) hx hb dX1_widen_0 (by decide) ?_
  refine lv_istore_n (lv' := [(1, .int (nI 16)), (0, .ref (ad q))]) hx hb dX1_widen_2 rfl hl (by decide) rfl (fun ls hl => ?_)
  have hw : xw D vwCl N ad B s.heap (va_up f b (ai (ca 0) 64 (wid w (16 - 16)))) s.heap [] := by
    have ez : f = va_up f b (ai (ca 0) 64 (wid w (16 - 16))) := by (show f = va_up f b (ai (ca 0) 64 w)); rw [← c_b, up_same]
    rw [← ez]; exact hw
  exact P_3 65 16 _ _ _ (by omega) (by omega) (by omega) hw (lv_sub hl [1, 0] rfl)

abbrev rmX1_mix : Room := { frames := 1, cells := 0, slots := 0, locals := 20 }

set_option maxHeartbeats 4000000 in
set_option maxRecDepth 100000 in
theorem k_X1_mix (l : Launch) (D : va_G) (ca : Nat → ClassId) (N : Nat) (ad : Nat → Nat) (B tR tK : Nat) (f : Nat → va_E) (dd : xD N ad B) (q : Nat) (a : Nat) (b : Nat) (e0 : Nat → Int32) (w : Nat → Int32) (l_q : q < N) (c_q : f q = .inr (2, [.ref (ad a), .ref (ad b)])) (l_a : a < N) (c_a : f a = ai (ca 0) 8 e0) (l_b : b < N) (c_b : f b = ai (ca 0) 64 w)  (nab : a ≠ b) : xMv l yX1_mix wsX1_mix rmX1_mix [.ref (ad q)] D ca N ad B tR tK f (fun u => u = va_up f a (ai (ca 0) 8 (mixTo e0 (rd e0 w 64) 8))) := by
  refine x_open (cc := cX1_mix) (maxL := 12) (ret := none) (by decide) rfl (Nat.le_of_ble_eq_true rfl) ?_
  intro p e s m below meth c ls hx hb hml hown hts hr hlocks hnm hB hK hE hw hl
  have hown : s.vm.findClass RX1 = some m.cls := hown
  have hl : lv_has ls 12 [(0, .ref (ad q))] := hl
  have hin_2 : ∀ w ∈ u_ws RX1 TX1 2, w ∈ wsX1_mix := by decide +kernel
  have hf_9 := hts (.fieldLink RX1 9 "FixityRows$LongDigest" "eight" "[I") (by decide +kernel)
  have hf_50 := hts (.fieldLink RX1 50 "FixityRows$LongDigest" "K" "[I") (by decide +kernel)
  have hf_15 := hts (.fieldLink RX1 15 "FixityRows$LongDigest" "w" "[I") (by decide +kernel)
  have b_q := c_q
  have b_a := c_a
  have b_b := c_b
  have P_66 : ∀ (n_66 : Nat) (i : Nat) (H : Heap) (locs : List Loc) (ls : Array Slot), 64 + 1 ≤ i + n_66 → (i ≤ 64) → xw D vwCl N ad B s.heap (f) H locs → lv_has ls 12 [(0, .ref (ad q)), (1, .int (rd e0 w i 0)), (2, .int (rd e0 w i 1)), (3, .int (rd e0 w i 2)), (4, .int (rd e0 w i 3)), (5, .int (rd e0 w i 4)), (6, .int (rd e0 w i 5)), (7, .int (rd e0 w i 6)), (8, .int (rd e0 w i 7)), (9, .int (nI i))] → W p l e rmX1_mix s m ([.ref (ad q)] : List Value).toArray below meth c H locs 0 0 (MQ below (xQv (fun u => u = va_up f a (ai (ca 0) 8 (mixTo e0 (rd e0 w 64) 8))) D N ad B) ([.ref (ad q)] : List Value).toArray s 0 0 (xA B)) (F0 m 66 ls []) := by
    intro n_66
    induction n_66 with
    | zero =>
      intro i H locs ls hm_66 hi hw hl
      exact absurd hm_66 (by omega)
    | succ n_66 ih_66 =>
      intro i H locs ls hm_66 hi hw hl
      have c_q := b_q
      have c_a := b_a
      have c_b := b_b
      refine lv_iload hx hb dX1_mix_66 (lv_at hl 9 rfl) ?_
      refine lv_bipush (v := nI 64) hx hb dX1_mix_68 (by decide) ?_
      refine n_icge (tgt := 168) hx hb dX1_mix_70 (by decide) (by omega) (by omega) (fun c_70 => ?_) (fun c_70 => ?_)
      · refine lv_aload_n hx hb dX1_mix_168 rfl (lv_at hl 0 rfl) ?_
        refine x_get (ci := 2) (C := RX1) (T := TX1) (n := 2) (ref := RX1) hx hb hts hin_2 hown hK hw q l_q c_q rfl 0 (by decide) hf_9 (fun _ h => h) rfl dX1_mix_169 ?_
        refine lv_iconst (v := nI 0) hx hb dX1_mix_172 (by decide) ?_
        refine lv_dup2_11 hx hb dX1_mix_173 rfl rfl ?_
        refine x_iald (j := 0) hx hb hK hw a 0 l_a c_a rfl rfl (by omega) (by decide) dX1_mix_174 ?_
        refine lv_iload_n hx hb dX1_mix_175 rfl (lv_at hl 1 rfl) ?_
        refine lv_iadd hx hb dX1_mix_176 ?_
        refine lv_topi (fun x_1 ex_1 => ?_)
        refine x_iast (j := 0) hx hb hK dd hw a 0 l_a c_a rfl rfl (by omega) (by decide) dX1_mix_177 (fun H locs hw => ?_)
        obtain ⟨f_2, ef_2⟩ : ∃ z, z = va_up f a (ai (ca 0) 8 (upd e0 0 x_1)) := ⟨_, rfl⟩
        have hw : xw D vwCl N ad B s.heap f_2 H locs := by rw [ef_2]; exact hw
        have c_a : f_2 a = ai (ca 0) 8 (upd e0 0 x_1) := va_up_of ef_2
        refine lv_aload_n hx hb dX1_mix_178 rfl (lv_at hl 0 rfl) ?_
        have c_q : f_2 q = .inr (2, [.ref (ad a), .ref (ad b)]) := by rw [ef_2, va_up_ne _ _ (kd_ne' b_a b_q)]; exact c_q
        refine x_get (ci := 2) (C := RX1) (T := TX1) (n := 2) (ref := RX1) hx hb hts hin_2 hown hK hw q l_q c_q rfl 0 (by decide) hf_9 (fun _ h => h) rfl dX1_mix_179 ?_
        refine lv_iconst (v := nI 1) hx hb dX1_mix_182 (by decide) ?_
        refine lv_dup2_11 hx hb dX1_mix_183 rfl rfl ?_
        refine x_iald (j := 1) hx hb hK hw a 0 l_a c_a rfl rfl (by omega) (by decide) dX1_mix_184 ?_
        refine lv_iload_n hx hb dX1_mix_185 rfl (lv_at hl 2 rfl) ?_
        refine lv_iadd hx hb dX1_mix_186 ?_
        refine lv_topi (fun x_3 ex_3 => ?_)
        refine x_iast (j := 1) hx hb hK dd hw a 0 l_a c_a rfl rfl (by omega) (by decide) dX1_mix_187 (fun H locs hw => ?_)
        obtain ⟨f_4, ef_4⟩ : ∃ z, z = va_up f_2 a (ai (ca 0) 8 (upd (upd e0 0 x_1) 1 x_3)) := ⟨_, rfl⟩
        have hw : xw D vwCl N ad B s.heap f_4 H locs := by rw [ef_4]; exact hw
        have c_a : f_4 a = ai (ca 0) 8 (upd (upd e0 0 x_1) 1 x_3) := va_up_of ef_4
        refine lv_aload_n hx hb dX1_mix_188 rfl (lv_at hl 0 rfl) ?_
        have c_q : f_4 q = .inr (2, [.ref (ad a), .ref (ad b)]) := by rw [ef_4, va_up_ne _ _ (kd_ne' b_a b_q)]; exact c_q
        refine x_get (ci := 2) (C := RX1) (T := TX1) (n := 2) (ref := RX1) hx hb hts hin_2 hown hK hw q l_q c_q rfl 0 (by decide) hf_9 (fun _ h => h) rfl dX1_mix_189 ?_
        refine lv_iconst (v := nI 2) hx hb dX1_mix_192 (by decide) ?_
        refine lv_dup2_11 hx hb dX1_mix_193 rfl rfl ?_
        refine x_iald (j := 2) hx hb hK hw a 0 l_a c_a rfl rfl (by omega) (by decide) dX1_mix_194 ?_
        refine lv_iload_n hx hb dX1_mix_195 rfl (lv_at hl 3 rfl) ?_
        refine lv_iadd hx hb dX1_mix_196 ?_
        refine lv_topi (fun x_5 ex_5 => ?_)
        refine x_iast (j := 2) hx hb hK dd hw a 0 l_a c_a rfl rfl (by omega) (by decide) dX1_mix_197 (fun H locs hw => ?_)
        obtain ⟨f_6, ef_6⟩ : ∃ z, z = va_up f_4 a (ai (ca 0) 8 (upd (upd (upd e0 0 x_1) 1 x_3) 2 x_5)) := ⟨_, rfl⟩
        have hw : xw D vwCl N ad B s.heap f_6 H locs := by rw [ef_6]; exact hw
        have c_a : f_6 a = ai (ca 0) 8 (upd (upd (upd e0 0 x_1) 1 x_3) 2 x_5) := va_up_of ef_6
        refine lv_aload_n hx hb dX1_mix_198 rfl (lv_at hl 0 rfl) ?_
        have c_q : f_6 q = .inr (2, [.ref (ad a), .ref (ad b)]) := by rw [ef_6, va_up_ne _ _ (kd_ne' b_a b_q)]; exact c_q
        refine x_get (ci := 2) (C := RX1) (T := TX1) (n := 2) (ref := RX1) hx hb hts hin_2 hown hK hw q l_q c_q rfl 0 (by decide) hf_9 (fun _ h => h) rfl dX1_mix_199 ?_
        refine lv_iconst (v := nI 3) hx hb dX1_mix_202 (by decide) ?_
        refine lv_dup2_11 hx hb dX1_mix_203 rfl rfl ?_
        refine x_iald (j := 3) hx hb hK hw a 0 l_a c_a rfl rfl (by omega) (by decide) dX1_mix_204 ?_
        refine lv_iload hx hb dX1_mix_205 (lv_at hl 4 rfl) ?_
        refine lv_iadd hx hb dX1_mix_207 ?_
        refine lv_topi (fun x_7 ex_7 => ?_)
        refine x_iast (j := 3) hx hb hK dd hw a 0 l_a c_a rfl rfl (by omega) (by decide) dX1_mix_208 (fun H locs hw => ?_)
        obtain ⟨f_8, ef_8⟩ : ∃ z, z = va_up f_6 a (ai (ca 0) 8 (upd (upd (upd (upd e0 0 x_1) 1 x_3) 2 x_5) 3 x_7)) := ⟨_, rfl⟩
        have hw : xw D vwCl N ad B s.heap f_8 H locs := by rw [ef_8]; exact hw
        have c_a : f_8 a = ai (ca 0) 8 (upd (upd (upd (upd e0 0 x_1) 1 x_3) 2 x_5) 3 x_7) := va_up_of ef_8
        refine lv_aload_n hx hb dX1_mix_209 rfl (lv_at hl 0 rfl) ?_
        have c_q : f_8 q = .inr (2, [.ref (ad a), .ref (ad b)]) := by rw [ef_8, va_up_ne _ _ (kd_ne' b_a b_q)]; exact c_q
        refine x_get (ci := 2) (C := RX1) (T := TX1) (n := 2) (ref := RX1) hx hb hts hin_2 hown hK hw q l_q c_q rfl 0 (by decide) hf_9 (fun _ h => h) rfl dX1_mix_210 ?_
        refine lv_iconst (v := nI 4) hx hb dX1_mix_213 (by decide) ?_
        refine lv_dup2_11 hx hb dX1_mix_214 rfl rfl ?_
        refine x_iald (j := 4) hx hb hK hw a 0 l_a c_a rfl rfl (by omega) (by decide) dX1_mix_215 ?_
        refine lv_iload hx hb dX1_mix_216 (lv_at hl 5 rfl) ?_
        refine lv_iadd hx hb dX1_mix_218 ?_
        refine lv_topi (fun x_9 ex_9 => ?_)
        refine x_iast (j := 4) hx hb hK dd hw a 0 l_a c_a rfl rfl (by omega) (by decide) dX1_mix_219 (fun H locs hw => ?_)
        obtain ⟨f_10, ef_10⟩ : ∃ z, z = va_up f_8 a (ai (ca 0) 8 (upd (upd (upd (upd (upd e0 0 x_1) 1 x_3) 2 x_5) 3 x_7) 4 x_9)) := ⟨_, rfl⟩
        have hw : xw D vwCl N ad B s.heap f_10 H locs := by rw [ef_10]; exact hw
        have c_a : f_10 a = ai (ca 0) 8 (upd (upd (upd (upd (upd e0 0 x_1) 1 x_3) 2 x_5) 3 x_7) 4 x_9) := va_up_of ef_10
        refine lv_aload_n hx hb dX1_mix_220 rfl (lv_at hl 0 rfl) ?_
        have c_q : f_10 q = .inr (2, [.ref (ad a), .ref (ad b)]) := by rw [ef_10, va_up_ne _ _ (kd_ne' b_a b_q)]; exact c_q
        refine x_get (ci := 2) (C := RX1) (T := TX1) (n := 2) (ref := RX1) hx hb hts hin_2 hown hK hw q l_q c_q rfl 0 (by decide) hf_9 (fun _ h => h) rfl dX1_mix_221 ?_
        refine lv_iconst (v := nI 5) hx hb dX1_mix_224 (by decide) ?_
        refine lv_dup2_11 hx hb dX1_mix_225 rfl rfl ?_
        refine x_iald (j := 5) hx hb hK hw a 0 l_a c_a rfl rfl (by omega) (by decide) dX1_mix_226 ?_
        refine lv_iload hx hb dX1_mix_227 (lv_at hl 6 rfl) ?_
        refine lv_iadd hx hb dX1_mix_229 ?_
        refine lv_topi (fun x_11 ex_11 => ?_)
        refine x_iast (j := 5) hx hb hK dd hw a 0 l_a c_a rfl rfl (by omega) (by decide) dX1_mix_230 (fun H locs hw => ?_)
        obtain ⟨f_12, ef_12⟩ : ∃ z, z = va_up f_10 a (ai (ca 0) 8 (upd (upd (upd (upd (upd (upd e0 0 x_1) 1 x_3) 2 x_5) 3 x_7) 4 x_9) 5 x_11)) := ⟨_, rfl⟩
        have hw : xw D vwCl N ad B s.heap f_12 H locs := by rw [ef_12]; exact hw
        have c_a : f_12 a = ai (ca 0) 8 (upd (upd (upd (upd (upd (upd e0 0 x_1) 1 x_3) 2 x_5) 3 x_7) 4 x_9) 5 x_11) := va_up_of ef_12
        refine lv_aload_n hx hb dX1_mix_231 rfl (lv_at hl 0 rfl) ?_
        have c_q : f_12 q = .inr (2, [.ref (ad a), .ref (ad b)]) := by rw [ef_12, va_up_ne _ _ (kd_ne' b_a b_q)]; exact c_q
        refine x_get (ci := 2) (C := RX1) (T := TX1) (n := 2) (ref := RX1) hx hb hts hin_2 hown hK hw q l_q c_q rfl 0 (by decide) hf_9 (fun _ h => h) rfl dX1_mix_232 ?_
        refine lv_bipush (v := nI 6) hx hb dX1_mix_235 (by decide) ?_
        refine lv_dup2_11 hx hb dX1_mix_237 rfl rfl ?_
        refine x_iald (j := 6) hx hb hK hw a 0 l_a c_a rfl rfl (by omega) (by decide) dX1_mix_238 ?_
        refine lv_iload hx hb dX1_mix_239 (lv_at hl 7 rfl) ?_
        refine lv_iadd hx hb dX1_mix_241 ?_
        refine lv_topi (fun x_13 ex_13 => ?_)
        refine x_iast (j := 6) hx hb hK dd hw a 0 l_a c_a rfl rfl (by omega) (by decide) dX1_mix_242 (fun H locs hw => ?_)
        obtain ⟨f_14, ef_14⟩ : ∃ z, z = va_up f_12 a (ai (ca 0) 8 (upd (upd (upd (upd (upd (upd (upd e0 0 x_1) 1 x_3) 2 x_5) 3 x_7) 4 x_9) 5 x_11) 6 x_13)) := ⟨_, rfl⟩
        have hw : xw D vwCl N ad B s.heap f_14 H locs := by rw [ef_14]; exact hw
        have c_a : f_14 a = ai (ca 0) 8 (upd (upd (upd (upd (upd (upd (upd e0 0 x_1) 1 x_3) 2 x_5) 3 x_7) 4 x_9) 5 x_11) 6 x_13) := va_up_of ef_14
        refine lv_aload_n hx hb dX1_mix_243 rfl (lv_at hl 0 rfl) ?_
        have c_q : f_14 q = .inr (2, [.ref (ad a), .ref (ad b)]) := by rw [ef_14, va_up_ne _ _ (kd_ne' b_a b_q)]; exact c_q
        refine x_get (ci := 2) (C := RX1) (T := TX1) (n := 2) (ref := RX1) hx hb hts hin_2 hown hK hw q l_q c_q rfl 0 (by decide) hf_9 (fun _ h => h) rfl dX1_mix_244 ?_
        refine lv_bipush (v := nI 7) hx hb dX1_mix_247 (by decide) ?_
        refine lv_dup2_11 hx hb dX1_mix_249 rfl rfl ?_
        refine x_iald (j := 7) hx hb hK hw a 0 l_a c_a rfl rfl (by omega) (by decide) dX1_mix_250 ?_
        refine lv_iload hx hb dX1_mix_251 (lv_at hl 8 rfl) ?_
        refine lv_iadd hx hb dX1_mix_253 ?_
        refine lv_topi (fun x_15 ex_15 => ?_)
        refine x_iast (j := 7) hx hb hK dd hw a 0 l_a c_a rfl rfl (by omega) (by decide) dX1_mix_254 (fun H locs hw => ?_)
        obtain ⟨f_16, ef_16⟩ : ∃ z, z = va_up f_14 a (ai (ca 0) 8 (upd (upd (upd (upd (upd (upd (upd (upd e0 0 x_1) 1 x_3) 2 x_5) 3 x_7) 4 x_9) 5 x_11) 6 x_13) 7 x_15)) := ⟨_, rfl⟩
        have hw : xw D vwCl N ad B s.heap f_16 H locs := by rw [ef_16]; exact hw
        have c_a : f_16 a = ai (ca 0) 8 (upd (upd (upd (upd (upd (upd (upd (upd e0 0 x_1) 1 x_3) 2 x_5) 3 x_7) 4 x_9) 5 x_11) 6 x_13) 7 x_15) := va_up_of ef_16
        exact x_vret hx hb hr hlocks hw (by have ei : i = 64 := (by omega); subst ei; simp only [ef_16, ex_15, ef_14, ex_13, ef_12, ex_11, ef_10, ex_9, ef_8, ex_7, ef_6, ex_5, ef_4, ex_3, ef_2, ex_1, up_aa]; rfl) dX1_mix_255
      · refine lv_iload hx hb dX1_mix_73 (lv_at hl 8 rfl) ?_
        refine lv_iload hx hb dX1_mix_75 (lv_at hl 5 rfl) ?_
        refine lv_topi (fun x_17 ex_17 => ?_)
        refine x_Si (As := [.int x_17]) (rest := [.int (rd e0 w i 7)]) ⟨hx, hb, hml, hown, hts⟩ (k_X1_bigSigma1 l D ca N ad B tR tK f dd x_17   ) (va_cwS 1 hts gX1_mix_X1_bigSigma1 rfl rfl rfl (by decide +kernel) ⟨Nat.le_of_ble_eq_true rfl, Nat.le_of_ble_eq_true rfl⟩) hK hE hB hw rfl rfl hl.1 (Nat.le_of_ble_eq_true rfl) ⟨Nat.zero_le _, Nat.zero_le _⟩ dX1_mix_77 (fun r_19 f_18 H locs hp hw => ?_)
        obtain ⟨er, eu⟩ := hp
        rw [← er]
        rw [← eu] at hw
        refine lv_iadd hx hb dX1_mix_80 ?_
        refine lv_iload hx hb dX1_mix_81 (lv_at hl 5 rfl) ?_
        refine lv_iload hx hb dX1_mix_83 (lv_at hl 6 rfl) ?_
        refine lv_iand hx hb dX1_mix_85 ?_
        refine lv_iload hx hb dX1_mix_86 (lv_at hl 5 rfl) ?_
        refine lv_iconst (v := (-1)) hx hb dX1_mix_88 (by decide) ?_
        refine lv_ixor hx hb dX1_mix_89 ?_
        refine lv_iload hx hb dX1_mix_90 (lv_at hl 7 rfl) ?_
        refine lv_iand hx hb dX1_mix_92 ?_
        refine lv_ixor hx hb dX1_mix_93 ?_
        refine lv_iadd hx hb dX1_mix_94 ?_
        refine x_kays hx hb hE hw hown hf_50 dX1_mix_95 ?_
        refine lv_iload hx hb dX1_mix_98 (lv_at hl 9 rfl) ?_
        refine x_kay hx hb hE hw (rfl : nI i = nI i) (by omega) dX1_mix_100 ?_
        refine lv_iadd hx hb dX1_mix_101 ?_
        refine lv_aload_n hx hb dX1_mix_102 rfl (lv_at hl 0 rfl) ?_
        refine x_get (ci := 2) (C := RX1) (T := TX1) (n := 2) (ref := RX1) hx hb hts hin_2 hown hK hw q l_q c_q rfl 1 (by decide) hf_15 (fun _ h => h) rfl dX1_mix_103 ?_
        refine lv_iload hx hb dX1_mix_106 (lv_at hl 9 rfl) ?_
        refine x_iald (j := i) hx hb hK hw b 0 l_b c_b rfl rfl (by omega) (by decide) dX1_mix_108 ?_
        refine lv_iadd hx hb dX1_mix_109 ?_
        refine lv_topi (fun x_20 ex_20 => ?_)
        refine lv_istore (lv' := [(10, .int x_20), (0, .ref (ad q)), (1, .int (rd e0 w i 0)), (2, .int (rd e0 w i 1)), (3, .int (rd e0 w i 2)), (4, .int (rd e0 w i 3)), (5, .int (rd e0 w i 4)), (6, .int (rd e0 w i 5)), (7, .int (rd e0 w i 6)), (8, .int (rd e0 w i 7)), (9, .int (nI i))]) hx hb dX1_mix_110 hl (by decide) rfl (fun ls hl => ?_)
        refine lv_iload_n hx hb dX1_mix_112 rfl (lv_at hl 2 rfl) ?_
        refine lv_topi (fun x_21 ex_21 => ?_)
        refine x_Si (As := [.int x_21]) (rest := []) ⟨hx, hb, hml, hown, hts⟩ (k_X1_bigSigma0 l D ca N ad B tR tK f dd x_21   ) (va_cwS 1 hts gX1_mix_X1_bigSigma0 rfl rfl rfl (by decide +kernel) ⟨Nat.le_of_ble_eq_true rfl, Nat.le_of_ble_eq_true rfl⟩) hK hE hB hw rfl rfl hl.1 (Nat.le_of_ble_eq_true rfl) ⟨Nat.zero_le _, Nat.zero_le _⟩ dX1_mix_113 (fun r_23 f_22 H locs hp hw => ?_)
        obtain ⟨er, eu⟩ := hp
        rw [← er]
        rw [← eu] at hw
        refine lv_iload_n hx hb dX1_mix_116 rfl (lv_at hl 2 rfl) ?_
        refine lv_iload_n hx hb dX1_mix_117 rfl (lv_at hl 3 rfl) ?_
        refine lv_iand hx hb dX1_mix_118 ?_
        refine lv_iload_n hx hb dX1_mix_119 rfl (lv_at hl 2 rfl) ?_
        refine lv_iload_n hx hb dX1_mix_120 rfl (lv_at hl 4 rfl) ?_
        refine lv_iand hx hb dX1_mix_121 ?_
        refine lv_ixor hx hb dX1_mix_122 ?_
        refine lv_iload_n hx hb dX1_mix_123 rfl (lv_at hl 3 rfl) ?_
        refine lv_iload_n hx hb dX1_mix_124 rfl (lv_at hl 4 rfl) ?_
        refine lv_iand hx hb dX1_mix_125 ?_
        refine lv_ixor hx hb dX1_mix_126 ?_
        refine lv_iadd hx hb dX1_mix_127 ?_
        refine lv_topi (fun x_24 ex_24 => ?_)
        refine lv_istore (lv' := [(11, .int x_24), (10, .int x_20), (0, .ref (ad q)), (1, .int (rd e0 w i 0)), (2, .int (rd e0 w i 1)), (3, .int (rd e0 w i 2)), (4, .int (rd e0 w i 3)), (5, .int (rd e0 w i 4)), (6, .int (rd e0 w i 5)), (7, .int (rd e0 w i 6)), (8, .int (rd e0 w i 7)), (9, .int (nI i))]) hx hb dX1_mix_128 hl (by decide) rfl (fun ls hl => ?_)
        refine lv_iload hx hb dX1_mix_130 (lv_at hl 9 rfl) ?_
        refine lv_topi (fun x_25 ex_25 => ?_)
        refine lv_istore (lv' := [(8, .int x_25), (11, .int x_24), (10, .int x_20), (0, .ref (ad q)), (1, .int (rd e0 w i 0)), (2, .int (rd e0 w i 1)), (3, .int (rd e0 w i 2)), (4, .int (rd e0 w i 3)), (5, .int (rd e0 w i 4)), (6, .int (rd e0 w i 5)), (7, .int (rd e0 w i 6)), (9, .int (nI i))]) hx hb dX1_mix_132 hl (by decide) rfl (fun ls hl => ?_)
        refine lv_iload hx hb dX1_mix_134 (lv_at hl 9 rfl) ?_
        refine lv_topi (fun x_26 ex_26 => ?_)
        refine lv_istore (lv' := [(7, .int x_26), (8, .int x_25), (11, .int x_24), (10, .int x_20), (0, .ref (ad q)), (1, .int (rd e0 w i 0)), (2, .int (rd e0 w i 1)), (3, .int (rd e0 w i 2)), (4, .int (rd e0 w i 3)), (5, .int (rd e0 w i 4)), (6, .int (rd e0 w i 5)), (9, .int (nI i))]) hx hb dX1_mix_136 hl (by decide) rfl (fun ls hl => ?_)
        refine lv_iload hx hb dX1_mix_138 (lv_at hl 9 rfl) ?_
        refine lv_topi (fun x_27 ex_27 => ?_)
        refine lv_istore (lv' := [(6, .int x_27), (7, .int x_26), (8, .int x_25), (11, .int x_24), (10, .int x_20), (0, .ref (ad q)), (1, .int (rd e0 w i 0)), (2, .int (rd e0 w i 1)), (3, .int (rd e0 w i 2)), (4, .int (rd e0 w i 3)), (5, .int (rd e0 w i 4)), (9, .int (nI i))]) hx hb dX1_mix_140 hl (by decide) rfl (fun ls hl => ?_)
        refine lv_iload hx hb dX1_mix_142 (lv_at hl 9 rfl) ?_
        refine lv_iload hx hb dX1_mix_144 (lv_at hl 4 rfl) ?_
        refine lv_iadd hx hb dX1_mix_146 ?_
        refine lv_topi (fun x_28 ex_28 => ?_)
        refine lv_istore (lv' := [(5, .int x_28), (6, .int x_27), (7, .int x_26), (8, .int x_25), (11, .int x_24), (10, .int x_20), (0, .ref (ad q)), (1, .int (rd e0 w i 0)), (2, .int (rd e0 w i 1)), (3, .int (rd e0 w i 2)), (4, .int (rd e0 w i 3)), (9, .int (nI i))]) hx hb dX1_mix_147 hl (by decide) rfl (fun ls hl => ?_)
        refine lv_iload_n hx hb dX1_mix_149 rfl (lv_at hl 9 rfl) ?_
        refine lv_topi (fun x_29 ex_29 => ?_)
        refine lv_istore (lv' := [(4, .int x_29), (5, .int x_28), (6, .int x_27), (7, .int x_26), (8, .int x_25), (11, .int x_24), (10, .int x_20), (0, .ref (ad q)), (1, .int (rd e0 w i 0)), (2, .int (rd e0 w i 1)), (3, .int (rd e0 w i 2)), (9, .int (nI i))]) hx hb dX1_mix_150 hl (by decide) rfl (fun ls hl => ?_)
        refine lv_iload_n hx hb dX1_mix_152 rfl (lv_at hl 9 rfl) ?_
        refine lv_topi (fun x_30 ex_30 => ?_)
        refine lv_istore_n (lv' := [(3, .int x_30), (4, .int x_29), (5, .int x_28), (6, .int x_27), (7, .int x_26), (8, .int x_25), (11, .int x_24), (10, .int x_20), (0, .ref (ad q)), (1, .int (rd e0 w i 0)), (2, .int (rd e0 w i 1)), (9, .int (nI i))]) hx hb dX1_mix_153 rfl hl (by decide) rfl (fun ls hl => ?_)
        refine lv_iload_n hx hb dX1_mix_154 rfl (lv_at hl 9 rfl) ?_
        refine lv_topi (fun x_31 ex_31 => ?_)
        refine lv_istore_n (lv' := [(2, .int x_31), (3, .int x_30), (4, .int x_29), (5, .int x_28), (6, .int x_27), (7, .int x_26), (8, .int x_25), (11, .int x_24), (10, .int x_20), (0, .ref (ad q)), (1, .int (rd e0 w i 0)), (9, .int (nI i))]) hx hb dX1_mix_155 rfl hl (by decide) rfl (fun ls hl => ?_)
        refine lv_iload hx hb dX1_mix_156 (lv_at hl 8 rfl) ?_
        refine lv_iload hx hb dX1_mix_158 (lv_at hl 7 rfl) ?_
        refine lv_iadd hx hb dX1_mix_160 ?_
        refine lv_topi (fun x_32 ex_32 => ?_)
        refine lv_istore_n (lv' := [(1, .int x_32), (2, .int x_31), (3, .int x_30), (4, .int x_29), (5, .int x_28), (6, .int x_27), (7, .int x_26), (8, .int x_25), (11, .int x_24), (10, .int x_20), (0, .ref (ad q)), (9, .int (nI i))]) hx hb dX1_mix_161 rfl hl (by decide) rfl (fun ls hl => ?_)
        refine lv_iinc (v := nI (i + 1)) (lv' := [(9, .int (nI (i + 1))), (1, .int x_32), (2, .int x_31), (3, .int x_30), (4, .int x_29), (5, .int x_28), (6, .int x_27), (7, .int x_26), (8, .int x_25), (11, .int x_24), (10, .int x_20), (0, .ref (ad q))]) hx hb dX1_mix_162 hl (k := 11) rfl (by rw [show Int32.ofInt 1 = nI 1 from rfl]; exact nI_add _ _) (by decide) rfl (fun ls hl => ?_)
        refine lv_goto (tgt := 66) hx hb dX1_mix_165 (by decide) ?_
        exact ih_66 (i + 1) _ _ _ (by omega) (by omega) hw (by have hl := lv_sub (l' := [(0, .ref (ad q)), (1, .int x_32), (2, .int x_31), (3, .int x_30), (4, .int x_29), (5, .int x_28), (6, .int x_27), (7, .int x_26), (8, .int x_25), (9, .int (nI (i + 1)))]) hl [11, 1, 2, 3, 4, 5, 6, 7, 8, 0] rfl; simp only [ex_32, ex_31, ex_30, ex_29, ex_28, ex_27, ex_26, ex_25, ex_24, ex_21, ex_20, ex_17] at hl; exact hl)
  refine lv_aload_n hx hb dX1_mix_0 rfl (lv_at hl 0 rfl) ?_
  refine x_get (ci := 2) (C := RX1) (T := TX1) (n := 2) (ref := RX1) hx hb hts hin_2 hown hK hw q l_q c_q rfl 0 (by decide) hf_9 (fun _ h => h) rfl dX1_mix_1 ?_
  refine lv_iconst (v := nI 0) hx hb dX1_mix_4 (by decide) ?_
  refine x_iald (j := 0) hx hb hK hw a 0 l_a c_a rfl rfl (by omega) (by decide) dX1_mix_5 ?_
  refine lv_topi (fun x_33 ex_33 => ?_)
  refine lv_istore_n (lv' := [(1, .int x_33), (0, .ref (ad q))]) hx hb dX1_mix_6 rfl hl (by decide) rfl (fun ls hl => ?_)
  refine lv_aload_n hx hb dX1_mix_7 rfl (lv_at hl 1 rfl) ?_
  refine x_get (ci := 2) (C := RX1) (T := TX1) (n := 2) (ref := RX1) hx hb hts hin_2 hown hK hw q l_q c_q rfl 0 (by decide) hf_9 (fun _ h => h) rfl dX1_mix_8 ?_
  refine lv_iconst (v := nI 1) hx hb dX1_mix_11 (by decide) ?_
  refine x_iald (j := 1) hx hb hK hw a 0 l_a c_a rfl rfl (by omega) (by decide) dX1_mix_12 ?_
  refine lv_topi (fun x_34 ex_34 => ?_)
  refine lv_istore_n (lv' := [(2, .int x_34), (1, .int x_33), (0, .ref (ad q))]) hx hb dX1_mix_13 rfl hl (by decide) rfl (fun ls hl => ?_)
  refine lv_aload_n hx hb dX1_mix_14 rfl (lv_at hl 2 rfl) ?_
  refine x_get (ci := 2) (C := RX1) (T := TX1) (n := 2) (ref := RX1) hx hb hts hin_2 hown hK hw q l_q c_q rfl 0 (by decide) hf_9 (fun _ h => h) rfl dX1_mix_15 ?_
  refine lv_iconst (v := nI 2) hx hb dX1_mix_18 (by decide) ?_
  refine x_iald (j := 2) hx hb hK hw a 0 l_a c_a rfl rfl (by omega) (by decide) dX1_mix_19 ?_
  refine lv_topi (fun x_35 ex_35 => ?_)
  refine lv_istore_n (lv' := [(3, .int x_35), (2, .int x_34), (1, .int x_33), (0, .ref (ad q))]) hx hb dX1_mix_20 rfl hl (by decide) rfl (fun ls hl => ?_)
  refine lv_aload_n hx hb dX1_mix_21 rfl (lv_at hl 3 rfl) ?_
  refine x_get (ci := 2) (C := RX1) (T := TX1) (n := 2) (ref := RX1) hx hb hts hin_2 hown hK hw q l_q c_q rfl 0 (by decide) hf_9 (fun _ h => h) rfl dX1_mix_22 ?_
  refine lv_iconst (v := nI 3) hx hb dX1_mix_25 (by decide) ?_
  refine x_iald (j := 3) hx hb hK hw a 0 l_a c_a rfl rfl (by omega) (by decide) dX1_mix_26 ?_
  refine lv_topi (fun x_36 ex_36 => ?_)
  refine lv_istore (lv' := [(4, .int x_36), (3, .int x_35), (2, .int x_34), (1, .int x_33), (0, .ref (ad q))]) hx hb dX1_mix_27 hl (by decide) rfl (fun ls hl => ?_)
  refine lv_aload_n hx hb dX1_mix_29 rfl (lv_at hl 4 rfl) ?_
  refine x_get (ci := 2) (C := RX1) (T := TX1) (n := 2) (ref := RX1) hx hb hts hin_2 hown hK hw q l_q c_q rfl 0 (by decide) hf_9 (fun _ h => h) rfl dX1_mix_30 ?_
  refine lv_iconst (v := nI 4) hx hb dX1_mix_33 (by decide) ?_
  refine x_iald (j := 4) hx hb hK hw a 0 l_a c_a rfl rfl (by omega) (by decide) dX1_mix_34 ?_
  refine lv_topi (fun x_37 ex_37 => ?_)
  refine lv_istore (lv' := [(5, .int x_37), (4, .int x_36), (3, .int x_35), (2, .int x_34), (1, .int x_33), (0, .ref (ad q))]) hx hb dX1_mix_35 hl (by decide) rfl (fun ls hl => ?_)
  refine lv_aload_n hx hb dX1_mix_37 rfl (lv_at hl 5 rfl) ?_
  refine x_get (ci := 2) (C := RX1) (T := TX1) (n := 2) (ref := RX1) hx hb hts hin_2 hown hK hw q l_q c_q rfl 0 (by decide) hf_9 (fun _ h => h) rfl dX1_mix_38 ?_
  refine lv_iconst (v := nI 5) hx hb dX1_mix_41 (by decide) ?_
  refine x_iald (j := 5) hx hb hK hw a 0 l_a c_a rfl rfl (by omega) (by decide) dX1_mix_42 ?_
  refine lv_topi (fun x_38 ex_38 => ?_)
  refine lv_istore (lv' := [(6, .int x_38), (5, .int x_37), (4, .int x_36), (3, .int x_35), (2, .int x_34), (1, .int x_33), (0, .ref (ad q))]) hx hb dX1_mix_43 hl (by decide) rfl (fun ls hl => ?_)
  refine lv_aload_n hx hb dX1_mix_45 rfl (lv_at hl 6 rfl) ?_
  refine x_get (ci := 2) (C := RX1) (T := TX1) (n := 2) (ref := RX1) hx hb hts hin_2 hown hK hw q l_q c_q rfl 0 (by decide) hf_9 (fun _ h => h) rfl dX1_mix_46 ?_
  refine lv_bipush (v := nI 6) hx hb dX1_mix_49 (by decide) ?_
  refine x_iald (j := 6) hx hb hK hw a 0 l_a c_a rfl rfl (by omega) (by decide) dX1_mix_51 ?_
  refine lv_topi (fun x_39 ex_39 => ?_)
  refine lv_istore (lv' := [(7, .int x_39), (6, .int x_38), (5, .int x_37), (4, .int x_36), (3, .int x_35), (2, .int x_34), (1, .int x_33), (0, .ref (ad q))]) hx hb dX1_mix_52 hl (by decide) rfl (fun ls hl => ?_)
  refine lv_aload_n hx hb dX1_mix_54 rfl (lv_at hl 7 rfl) ?_
  refine x_get (ci := 2) (C := RX1) (T := TX1) (n := 2) (ref := RX1) hx hb hts hin_2 hown hK hw q l_q c_q rfl 0 (by decide) hf_9 (fun _ h => h) rfl dX1_mix_55 ?_
  refine lv_bipush (v := nI 7) hx hb dX1_mix_58 (by decide) ?_
  refine x_iald (j := 7) hx hb hK hw a 0 l_a c_a rfl rfl (by omega) (by decide) dX1_mix_60 ?_
  refine lv_topi (fun x_40 ex_40 => ?_)
  refine lv_istore (lv' := [(8, .int x_40), (7, .int x_39), (6, .int x_38), (5, .int x_37), (4, .int x_36), (3, .int x_35), (2, .int x_34), (1, .int x_33), (0, .ref (ad q))]) hx hb dX1_mix_61 hl (by decide) rfl (fun ls hl => ?_)
  refine lv_iconst (v := nI 0) hx hb dX1_mix_63 (by decide) ?_
  refine lv_istore (lv' := [(9, .int (nI 0)), (8, .int x_40), (7, .int x_39), (6, .int x_38), (5, .int x_37), (4, .int x_36), (3, .int x_35), (2, .int x_34), (1, .int x_33), (0, .ref (ad q))]) hx hb dX1_mix_64 hl (by decide) rfl (fun ls hl => ?_)
  exact P_66 65 0 _ _ _ (by omega) (by omega) hw (by have hl := lv_sub (l' := [(0, .ref (ad q)), (1, .int x_33), (2, .int x_34), (3, .int x_35), (4, .int x_36), (5, .int x_37), (6, .int x_38), (7, .int x_39), (8, .int x_40), (9, .int (nI 0))]) hl [9, 8, 7, 6, 5, 4, 3, 2, 1, 0] rfl; simp only [ex_40, ex_39, ex_38, ex_37, ex_36, ex_35, ex_34, ex_33] at hl; exact hl)

abbrev rmX1_copyTo : Room := { frames := 0, cells := 0, slots := 0, locals := 0 }

set_option maxHeartbeats 4000000 in
set_option maxRecDepth 100000 in
theorem k_X1_copyTo (l : Launch) (D : va_G) (ca : Nat → ClassId) (N : Nat) (ad : Nat → Nat) (B tR tK : Nat) (f : Nat → va_E) (dd : xD N ad B) (q : Nat) (a : Nat) (b : Nat) (e0 : Nat → Int32) (t : Nat) (g : Nat → Int32) (l_q : q < N) (c_q : f q = .inr (2, [.ref (ad a), .ref (ad b)])) (l_a : a < N) (c_a : f a = ai (ca 0) 8 e0) (l_t : t < N) (c_t : f t = ai (ca 0) 8 g)  (nta : t ≠ a) : xMv l yX1_copyTo wsX1_copyTo rmX1_copyTo [.ref (ad q), .ref (ad t)] D ca N ad B tR tK f (fun u => u = va_up f t (ai (ca 0) 8 (cpyTo g e0 8))) := by
  refine x_open (cc := cX1_copyTo) (maxL := 3) (ret := none) (by decide) rfl (Nat.le_of_ble_eq_true rfl) ?_
  intro p e s m below meth c ls hx hb hml hown hts hr hlocks hnm hB hK hE hw hl
  have hown : s.vm.findClass RX1 = some m.cls := hown
  have hl : lv_has ls 3 [(0, .ref (ad q)), (1, .ref (ad t))] := hl
  have hin_2 : ∀ w ∈ u_ws RX1 TX1 2, w ∈ wsX1_copyTo := by decide +kernel
  have hf_9 := hts (.fieldLink RX1 9 "FixityRows$LongDigest" "eight" "[I") (by decide +kernel)
  have b_q := c_q
  have b_a := c_a
  have b_t := c_t
  have P_2 : ∀ (n_2 : Nat) (i : Nat) (H : Heap) (locs : List Loc) (ls : Array Slot), 8 + 1 ≤ i + n_2 → (i ≤ 8) → xw D vwCl N ad B s.heap (va_up f t (ai (ca 0) 8 (cpyTo g e0 i))) H locs → lv_has ls 3 [(0, .ref (ad q)), (1, .ref (ad t)), (2, .int (nI i))] → W p l e rmX1_copyTo s m ([.ref (ad q), .ref (ad t)] : List Value).toArray below meth c H locs 0 0 (MQ below (xQv (fun u => u = va_up f t (ai (ca 0) 8 (cpyTo g e0 8))) D N ad B) ([.ref (ad q), .ref (ad t)] : List Value).toArray s 0 0 (xA B)) (F0 m 2 ls []) := by
    intro n_2
    induction n_2 with
    | zero =>
      intro i H locs ls hm_2 hi hw hl
      exact absurd hm_2 (by omega)
    | succ n_2 ih_2 =>
      intro i H locs ls hm_2 hi hw hl
      have c_q := b_q
      have c_a := b_a
      have c_t := b_t
      obtain ⟨f_1, ef_1⟩ : ∃ z, z = va_up f t (ai (ca 0) 8 (cpyTo g e0 i)) := ⟨_, rfl⟩
      have hw : xw D vwCl N ad B s.heap f_1 H locs := by rw [ef_1]; exact hw
      have c_t : f_1 t = ai (ca 0) 8 (cpyTo g e0 i) := by rw [ef_1, va_up_self]
      refine lv_iload_n hx hb dX1_copyTo_2 rfl (lv_at hl 2 rfl) ?_
      refine lv_bipush (v := nI 8) hx hb dX1_copyTo_3 (by decide) ?_
      refine n_icge (tgt := 29) hx hb dX1_copyTo_5 (by decide) (by omega) (by omega) (fun c_5 => ?_) (fun c_5 => ?_)
      · exact x_vret hx hb hr hlocks hw (by have ei : i = 8 := (by omega); subst ei; simp only [ef_1]) dX1_copyTo_29
      · refine lv_iload_n hx hb dX1_copyTo_8 rfl (lv_at hl 2 rfl) ?_
        refine lv_aload_n hx hb dX1_copyTo_9 rfl (lv_at hl 1 rfl) ?_
        refine x_alen hx hb hK hw t 0 l_t c_t rfl dX1_copyTo_10 ?_
        refine n_icge (tgt := 29) hx hb dX1_copyTo_11 (by decide) (by omega) (by omega) (fun c_11 => ?_) (fun c_11 => ?_)
        · omega
        · refine lv_aload_n hx hb dX1_copyTo_14 rfl (lv_at hl 1 rfl) ?_
          refine lv_iload_n hx hb dX1_copyTo_15 rfl (lv_at hl 2 rfl) ?_
          refine lv_aload_n hx hb dX1_copyTo_16 rfl (lv_at hl 0 rfl) ?_
          have c_q : f_1 q = .inr (2, [.ref (ad a), .ref (ad b)]) := by rw [ef_1, va_up_ne _ _ (kd_ne' b_t b_q)]; exact c_q
          refine x_get (ci := 2) (C := RX1) (T := TX1) (n := 2) (ref := RX1) hx hb hts hin_2 hown hK hw q l_q c_q rfl 0 (by decide) hf_9 (fun _ h => h) rfl dX1_copyTo_17 ?_
          refine lv_iload_n hx hb dX1_copyTo_20 rfl (lv_at hl 2 rfl) ?_
          have c_a : f_1 a = ai (ca 0) 8 e0 := by rw [ef_1, va_up_ne _ _ (by omega)]; exact c_a
          refine x_iald (j := i) hx hb hK hw a 0 l_a c_a rfl rfl (by omega) (by decide) dX1_copyTo_21 ?_
          refine lv_topi (fun x_2 ex_2 => ?_)
          refine x_iast (j := i) hx hb hK dd hw t 0 l_t c_t rfl rfl (by omega) (by decide) dX1_copyTo_22 (fun H locs hw => ?_)
          obtain ⟨f_3, ef_3⟩ : ∃ z, z = va_up f_1 t (ai (ca 0) 8 (upd (cpyTo g e0 i) i x_2)) := ⟨_, rfl⟩
          have hw : xw D vwCl N ad B s.heap f_3 H locs := by rw [ef_3]; exact hw
          have c_t : f_3 t = ai (ca 0) 8 (upd (cpyTo g e0 i) i x_2) := va_up_of ef_3
          refine lv_iinc (v := nI (i + 1)) (lv' := [(2, .int (nI (i + 1))), (0, .ref (ad q)), (1, .ref (ad t))]) hx hb dX1_copyTo_23 hl (k := 2) rfl (by rw [show Int32.ofInt 1 = nI 1 from rfl]; exact nI_add _ _) (by decide) rfl (fun ls hl => ?_)
          refine lv_goto (tgt := 2) hx hb dX1_copyTo_26 (by decide) ?_
          have hw : xw D vwCl N ad B s.heap (va_up f t (ai (ca 0) 8 (cpyTo g e0 (i + 1)))) H locs := by
            have ez : f_3 = va_up f t (ai (ca 0) 8 (cpyTo g e0 (i + 1))) := by simp only [ef_3, ex_2, ef_1, up_aa, cp_step]
            rw [← ez]; exact hw
          exact ih_2 (i + 1) _ _ _ (by omega) (by omega) hw (lv_sub hl [1, 2, 0] rfl)
  refine lv_iconst (v := nI 0) hx hb dX1_copyTo_0 (by decide) ?_
  refine lv_istore_n (lv' := [(2, .int (nI 0)), (0, .ref (ad q)), (1, .ref (ad t))]) hx hb dX1_copyTo_1 rfl hl (by decide) rfl (fun ls hl => ?_)
  have hw : xw D vwCl N ad B s.heap (va_up f t (ai (ca 0) 8 (cpyTo g e0 0))) s.heap [] := by
    have ez : f = va_up f t (ai (ca 0) 8 (cpyTo g e0 0)) := by rw [cp_0, ← c_t, up_same]
    rw [← ez]; exact hw
  exact P_2 9 0 _ _ _ (by omega) (by omega) hw (lv_sub hl [1, 2, 0] rfl)

abbrev rmX1_equalTo : Room := { frames := 0, cells := 0, slots := 0, locals := 0 }

set_option maxHeartbeats 4000000 in
set_option maxRecDepth 100000 in
theorem k_X1_equalTo_yes (l : Launch) (D : va_G) (ca : Nat → ClassId) (N : Nat) (ad : Nat → Nat) (B tR tK : Nat) (f : Nat → va_E) (dd : xD N ad B) (q : Nat) (a : Nat) (b : Nat) (e0 : Nat → Int32) (t : Nat) (g : Nat → Int32) (l_q : q < N) (c_q : f q = .inr (2, [.ref (ad a), .ref (ad b)])) (l_a : a < N) (c_a : f a = ai (ca 0) 8 e0) (l_t : t < N) (c_t : f t = ai (ca 0) 8 g)  (hq : ∀ j, j < 8 → g j = e0 j) : xMi l yX1_equalTo wsX1_equalTo rmX1_equalTo [.ref (ad q), .ref (ad t)] D ca N ad B tR tK f (fun r u => nI 1 = r ∧ f = u) := by
  refine x_open (cc := cX1_equalTo) (maxL := 3) (ret := (some .boolean)) (by decide) rfl (Nat.le_of_ble_eq_true rfl) ?_
  intro p e s m below meth c ls hx hb hml hown hts hr hlocks hnm hB hK hE hw hl
  have hown : s.vm.findClass RX1 = some m.cls := hown
  have hl : lv_has ls 3 [(0, .ref (ad q)), (1, .ref (ad t))] := hl
  have hin_2 : ∀ w ∈ u_ws RX1 TX1 2, w ∈ wsX1_equalTo := by decide +kernel
  have hf_9 := hts (.fieldLink RX1 9 "FixityRows$LongDigest" "eight" "[I") (by decide +kernel)
  have b_q := c_q
  have b_a := c_a
  have b_t := c_t
  have P_2 : ∀ (n_2 : Nat) (i : Nat) (H : Heap) (locs : List Loc) (ls : Array Slot), 8 + 1 ≤ i + n_2 → (i ≤ 8) → xw D vwCl N ad B s.heap (f) H locs → lv_has ls 3 [(0, .ref (ad q)), (1, .ref (ad t)), (2, .int (nI i))] → W p l e rmX1_equalTo s m ([.ref (ad q), .ref (ad t)] : List Value).toArray below meth c H locs 0 0 (MQ below (xQi (fun r u => nI 1 = r ∧ f = u) D N ad B) ([.ref (ad q), .ref (ad t)] : List Value).toArray s 0 0 (xA B)) (F0 m 2 ls []) := by
    intro n_2
    induction n_2 with
    | zero =>
      intro i H locs ls hm_2 hi hw hl
      exact absurd hm_2 (by omega)
    | succ n_2 ih_2 =>
      intro i H locs ls hm_2 hi hw hl
      have c_q := b_q
      have c_a := b_a
      have c_t := b_t
      refine lv_iload_n hx hb dX1_equalTo_2 rfl (lv_at hl 2 rfl) ?_
      refine lv_bipush (v := nI 8) hx hb dX1_equalTo_3 (by decide) ?_
      refine n_icge (tgt := 34) hx hb dX1_equalTo_5 (by decide) (by omega) (by omega) (fun c_5 => ?_) (fun c_5 => ?_)
      · refine lv_iconst (v := nI 1) hx hb dX1_equalTo_34 (by decide) ?_
        exact x_zret hx hb hr hlocks hw (by first | exact Or.inl rfl | exact Or.inr rfl) ⟨rfl, rfl⟩ dX1_equalTo_35
      · refine lv_iload_n hx hb dX1_equalTo_8 rfl (lv_at hl 2 rfl) ?_
        refine lv_aload_n hx hb dX1_equalTo_9 rfl (lv_at hl 1 rfl) ?_
        refine x_alen hx hb hK hw t 0 l_t c_t rfl dX1_equalTo_10 ?_
        refine n_icge (tgt := 34) hx hb dX1_equalTo_11 (by decide) (by omega) (by omega) (fun c_11 => ?_) (fun c_11 => ?_)
        · omega
        · refine lv_aload_n hx hb dX1_equalTo_14 rfl (lv_at hl 1 rfl) ?_
          refine lv_iload_n hx hb dX1_equalTo_15 rfl (lv_at hl 2 rfl) ?_
          refine x_iald (j := i) hx hb hK hw t 0 l_t c_t rfl rfl (by omega) (by decide) dX1_equalTo_16 ?_
          refine lv_aload_n hx hb dX1_equalTo_17 rfl (lv_at hl 0 rfl) ?_
          refine x_get (ci := 2) (C := RX1) (T := TX1) (n := 2) (ref := RX1) hx hb hts hin_2 hown hK hw q l_q c_q rfl 0 (by decide) hf_9 (fun _ h => h) rfl dX1_equalTo_18 ?_
          refine lv_iload_n hx hb dX1_equalTo_21 rfl (lv_at hl 2 rfl) ?_
          refine x_iald (j := i) hx hb hK hw a 0 l_a c_a rfl rfl (by omega) (by decide) dX1_equalTo_22 ?_
          refine lv_icmp_eq (tgt := 28) hx hb dX1_equalTo_23 (by decide) (fun c_23 => ?_) (fun c_23 => ?_)
          · refine lv_iinc (v := nI (i + 1)) (lv' := [(2, .int (nI (i + 1))), (0, .ref (ad q)), (1, .ref (ad t))]) hx hb dX1_equalTo_28 hl (k := 2) rfl (by rw [show Int32.ofInt 1 = nI 1 from rfl]; exact nI_add _ _) (by decide) rfl (fun ls hl => ?_)
            refine lv_goto (tgt := 2) hx hb dX1_equalTo_31 (by decide) ?_
            exact ih_2 (i + 1) _ _ _ (by omega) (by omega) hw (lv_sub hl [1, 2, 0] rfl)
          · exact absurd (hq i c_5) c_23
  refine lv_iconst (v := nI 0) hx hb dX1_equalTo_0 (by decide) ?_
  refine lv_istore_n (lv' := [(2, .int (nI 0)), (0, .ref (ad q)), (1, .ref (ad t))]) hx hb dX1_equalTo_1 rfl hl (by decide) rfl (fun ls hl => ?_)
  exact P_2 9 0 _ _ _ (by omega) (by omega) hw (lv_sub hl [1, 2, 0] rfl)

set_option maxHeartbeats 4000000 in
set_option maxRecDepth 100000 in
theorem k_X1_equalTo_no (l : Launch) (D : va_G) (ca : Nat → ClassId) (N : Nat) (ad : Nat → Nat) (B tR tK : Nat) (f : Nat → va_E) (dd : xD N ad B) (q : Nat) (a : Nat) (b : Nat) (e0 : Nat → Int32) (t : Nat) (g : Nat → Int32) (l_q : q < N) (c_q : f q = .inr (2, [.ref (ad a), .ref (ad b)])) (l_a : a < N) (c_a : f a = ai (ca 0) 8 e0) (l_t : t < N) (c_t : f t = ai (ca 0) 8 g)  (hq : ∃ j, j < 8 ∧ g j ≠ e0 j) : xMi l yX1_equalTo wsX1_equalTo rmX1_equalTo [.ref (ad q), .ref (ad t)] D ca N ad B tR tK f (fun r u => nI 0 = r ∧ f = u) := by
  refine x_open (cc := cX1_equalTo) (maxL := 3) (ret := (some .boolean)) (by decide) rfl (Nat.le_of_ble_eq_true rfl) ?_
  intro p e s m below meth c ls hx hb hml hown hts hr hlocks hnm hB hK hE hw hl
  have hown : s.vm.findClass RX1 = some m.cls := hown
  have hl : lv_has ls 3 [(0, .ref (ad q)), (1, .ref (ad t))] := hl
  have hin_2 : ∀ w ∈ u_ws RX1 TX1 2, w ∈ wsX1_equalTo := by decide +kernel
  have hf_9 := hts (.fieldLink RX1 9 "FixityRows$LongDigest" "eight" "[I") (by decide +kernel)
  have b_q := c_q
  have b_a := c_a
  have b_t := c_t
  have P_2 : ∀ (n_2 : Nat) (i : Nat) (H : Heap) (locs : List Loc) (ls : Array Slot), 8 + 1 ≤ i + n_2 → (i ≤ 8) → (∀ j, j < i → g j = e0 j) → xw D vwCl N ad B s.heap (f) H locs → lv_has ls 3 [(0, .ref (ad q)), (1, .ref (ad t)), (2, .int (nI i))] → W p l e rmX1_equalTo s m ([.ref (ad q), .ref (ad t)] : List Value).toArray below meth c H locs 0 0 (MQ below (xQi (fun r u => nI 0 = r ∧ f = u) D N ad B) ([.ref (ad q), .ref (ad t)] : List Value).toArray s 0 0 (xA B)) (F0 m 2 ls []) := by
    intro n_2
    induction n_2 with
    | zero =>
      intro i H locs ls hm_2 hi hs hw hl
      exact absurd hm_2 (by omega)
    | succ n_2 ih_2 =>
      intro i H locs ls hm_2 hi hs hw hl
      have c_q := b_q
      have c_a := b_a
      have c_t := b_t
      refine lv_iload_n hx hb dX1_equalTo_2 rfl (lv_at hl 2 rfl) ?_
      refine lv_bipush (v := nI 8) hx hb dX1_equalTo_3 (by decide) ?_
      refine n_icge (tgt := 34) hx hb dX1_equalTo_5 (by decide) (by omega) (by omega) (fun c_5 => ?_) (fun c_5 => ?_)
      · exact absurd hq (fun ⟨j, h1, h2⟩ => h2 (hs j (by omega)))
      · refine lv_iload_n hx hb dX1_equalTo_8 rfl (lv_at hl 2 rfl) ?_
        refine lv_aload_n hx hb dX1_equalTo_9 rfl (lv_at hl 1 rfl) ?_
        refine x_alen hx hb hK hw t 0 l_t c_t rfl dX1_equalTo_10 ?_
        refine n_icge (tgt := 34) hx hb dX1_equalTo_11 (by decide) (by omega) (by omega) (fun c_11 => ?_) (fun c_11 => ?_)
        · omega
        · refine lv_aload_n hx hb dX1_equalTo_14 rfl (lv_at hl 1 rfl) ?_
          refine lv_iload_n hx hb dX1_equalTo_15 rfl (lv_at hl 2 rfl) ?_
          refine x_iald (j := i) hx hb hK hw t 0 l_t c_t rfl rfl (by omega) (by decide) dX1_equalTo_16 ?_
          refine lv_aload_n hx hb dX1_equalTo_17 rfl (lv_at hl 0 rfl) ?_
          refine x_get (ci := 2) (C := RX1) (T := TX1) (n := 2) (ref := RX1) hx hb hts hin_2 hown hK hw q l_q c_q rfl 0 (by decide) hf_9 (fun _ h => h) rfl dX1_equalTo_18 ?_
          refine lv_iload_n hx hb dX1_equalTo_21 rfl (lv_at hl 2 rfl) ?_
          refine x_iald (j := i) hx hb hK hw a 0 l_a c_a rfl rfl (by omega) (by decide) dX1_equalTo_22 ?_
          refine lv_icmp_eq (tgt := 28) hx hb dX1_equalTo_23 (by decide) (fun c_23 => ?_) (fun c_23 => ?_)
          · refine lv_iinc (v := nI (i + 1)) (lv' := [(2, .int (nI (i + 1))), (0, .ref (ad q)), (1, .ref (ad t))]) hx hb dX1_equalTo_28 hl (k := 2) rfl (by rw [show Int32.ofInt 1 = nI 1 from rfl]; exact nI_add _ _) (by decide) rfl (fun ls hl => ?_)
            refine lv_goto (tgt := 2) hx hb dX1_equalTo_31 (by decide) ?_
            exact ih_2 (i + 1) _ _ _ (by omega) (by omega) (lt_s hs c_23) hw (lv_sub hl [1, 2, 0] rfl)
          · refine lv_iconst (v := nI 0) hx hb dX1_equalTo_26 (by decide) ?_
            exact x_zret hx hb hr hlocks hw (by first | exact Or.inl rfl | exact Or.inr rfl) ⟨rfl, rfl⟩ dX1_equalTo_27
  refine lv_iconst (v := nI 0) hx hb dX1_equalTo_0 (by decide) ?_
  refine lv_istore_n (lv' := [(2, .int (nI 0)), (0, .ref (ad q)), (1, .ref (ad t))]) hx hb dX1_equalTo_1 rfl hl (by decide) rfl (fun ls hl => ?_)
  exact P_2 9 0 _ _ _ (by omega) (by omega) (fun j hj => absurd hj (by omega)) hw (lv_sub hl [1, 2, 0] rfl)

abbrev rmX1_compute : Room := { frames := 2, cells := 0, slots := 0, locals := 51 }

set_option maxHeartbeats 4000000 in
set_option maxRecDepth 100000 in
theorem k_X1_compute (l : Launch) (D : va_G) (ca : Nat → ClassId) (N : Nat) (ad : Nat → Nat) (B tR tK : Nat) (f : Nat → va_E) (dd : xD N ad B) (q : Nat) (a : Nat) (b : Nat) (e0 : Nat → Int32) (w : Nat → Int32) (o : Nat) (v : Nat) (sz : Nat) (g : Nat → Int32) (l_q : q < N) (c_q : f q = .inr (2, [.ref (ad a), .ref (ad b)])) (l_a : a < N) (c_a : f a = ai (ca 0) 8 e0) (l_b : b < N) (c_b : f b = ai (ca 0) 64 w) (l_o : o < N) (c_o : f o = .inr (3, [.ref (ad v), .int (nI sz)])) (l_v : v < N) (c_v : f v = ai (ca 0) 200 g)  (nab : a ≠ b) (nva : v ≠ a) (nvb : v ≠ b) (hn : sz ≤ 200) : xMv l yX1_compute wsX1_compute rmX1_compute [.ref (ad q), .ref (ad o)] D ca N ad B tR tK f (fun u => ∃ w1 : Nat → Int32, ∃ e1 : Nat → Int32, (∀ j, j < 8 → e1 j = sha sz g j) ∧ u = va_up (va_up f b (ai (ca 0) 64 w1)) a (ai (ca 0) 8 e1)) := by
  refine x_open (cc := cX1_compute) (maxL := 6) (ret := none) (by decide) rfl (Nat.le_of_ble_eq_true rfl) ?_
  intro p e s m below meth c ls hx hb hml hown hts hr hlocks hnm hB hK hE hw hl
  have hown : s.vm.findClass RX1 = some m.cls := hown
  have hl : lv_has ls 6 [(0, .ref (ad q)), (1, .ref (ad o))] := hl
  have hin_2 : ∀ w ∈ u_ws RX1 TX1 2, w ∈ wsX1_compute := by decide +kernel
  have hf_15 := hts (.fieldLink RX1 15 "FixityRows$LongDigest" "w" "[I") (by decide +kernel)
  have hf_9 := hts (.fieldLink RX1 9 "FixityRows$LongDigest" "eight" "[I") (by decide +kernel)
  have hf_18 := hts (.fieldLink RX1 18 "FixityRows$LongDigest" "ROOTS" "[I") (by decide +kernel)
  have b_q := c_q
  have b_a := c_a
  have b_b := c_b
  have b_o := c_o
  have b_v := c_v
  have P_43 : ∀ (n_43 : Nat) (bi : Nat) (H : Heap) (locs : List Loc) (ls : Array Slot), (sz + 8) / 64 + 1 + 1 ≤ bi + n_43 → (bi ≤ (sz + 8) / 64 + 1) → xw D vwCl N ad B s.heap (va_up (va_up f b (ai (ca 0) 64 ((shA sz g (cpyTo e0 shR 8) w bi).2))) a (ai (ca 0) 8 ((shA sz g (cpyTo e0 shR 8) w bi).1))) H locs → lv_has ls 6 [(0, .ref (ad q)), (1, .ref (ad o)), (2, .int (nI sz)), (3, .int (nI (((sz + 8) / 64) + 1))), (4, .int (nI bi))] → W p l e rmX1_compute s m ([.ref (ad q), .ref (ad o)] : List Value).toArray below meth c H locs 0 0 (MQ below (xQv (fun u => ∃ w1 : Nat → Int32, ∃ e1 : Nat → Int32, (∀ j, j < 8 → e1 j = sha sz g j) ∧ u = va_up (va_up f b (ai (ca 0) 64 w1)) a (ai (ca 0) 8 e1)) D N ad B) ([.ref (ad q), .ref (ad o)] : List Value).toArray s 0 0 (xA B)) (F0 m 43 ls []) := by
    intro n_43
    induction n_43 with
    | zero =>
      intro bi H locs ls hm_43 hb0 hw hl
      exact absurd hm_43 (by omega)
    | succ n_43 ih_43 =>
      intro bi H locs ls hm_43 hb0 hw hl
      have P_105 : ∀ (bi : Nat) (H : Heap) (locs : List Loc) (ls : Array Slot), (bi < (sz + 8) / 64 + 1) → ((sz + 8) / 64 + 1 + 1 ≤ bi + (n_43 + 1)) → xw D vwCl N ad B s.heap (va_up (va_up f b (ai (ca 0) 64 ((if bi = nb sz - 1 then upd (cpyTo (shA sz g (cpyTo e0 shR 8) w bi).2 (bw sz g bi) 16) 15 (nI (sz * 8)) else cpyTo (shA sz g (cpyTo e0 shR 8) w bi).2 (bw sz g bi) 16)))) a (ai (ca 0) 8 ((shA sz g (cpyTo e0 shR 8) w bi).1))) H locs → lv_has ls 6 [(0, .ref (ad q)), (1, .ref (ad o)), (2, .int (nI sz)), (3, .int (nI (((sz + 8) / 64) + 1))), (4, .int (nI bi))] → W p l e rmX1_compute s m ([.ref (ad q), .ref (ad o)] : List Value).toArray below meth c H locs 0 0 (MQ below (xQv (fun u => ∃ w1 : Nat → Int32, ∃ e1 : Nat → Int32, (∀ j, j < 8 → e1 j = sha sz g j) ∧ u = va_up (va_up f b (ai (ca 0) 64 w1)) a (ai (ca 0) 8 e1)) D N ad B) ([.ref (ad q), .ref (ad o)] : List Value).toArray s 0 0 (xA B)) (F0 m 105 ls []) := by
        intro bi H locs ls hbb hu hw hl
        have c_q := b_q
        have c_a := b_a
        have c_b := b_b
        have c_o := b_o
        have c_v := b_v
        obtain ⟨f_1, ef_1⟩ : ∃ z, z = va_up (va_up f b (ai (ca 0) 64 ((if bi = nb sz - 1 then upd (cpyTo (shA sz g (cpyTo e0 shR 8) w bi).2 (bw sz g bi) 16) 15 (nI (sz * 8)) else cpyTo (shA sz g (cpyTo e0 shR 8) w bi).2 (bw sz g bi) 16)))) a (ai (ca 0) 8 ((shA sz g (cpyTo e0 shR 8) w bi).1)) := ⟨_, rfl⟩
        have hw : xw D vwCl N ad B s.heap f_1 H locs := by rw [ef_1]; exact hw
        have c_b : f_1 b = ai (ca 0) 64 ((if bi = nb sz - 1 then upd (cpyTo (shA sz g (cpyTo e0 shR 8) w bi).2 (bw sz g bi) 16) 15 (nI (sz * 8)) else cpyTo (shA sz g (cpyTo e0 shR 8) w bi).2 (bw sz g bi) 16)) := by rw [ef_1, va_up_ne _ _ (by omega), va_up_self]
        have c_a : f_1 a = ai (ca 0) 8 ((shA sz g (cpyTo e0 shR 8) w bi).1) := by rw [ef_1, va_up_self]
        refine lv_aload_n hx hb dX1_compute_105 rfl (lv_at hl 0 rfl) ?_
        have c_q : f_1 q = .inr (2, [.ref (ad a), .ref (ad b)]) := by rw [ef_1, va_up_ne _ _ (kd_ne' b_a b_q), va_up_ne _ _ (kd_ne' b_b b_q)]; exact c_q
        refine x_Vv (q := q) (As := []) (rest := []) ⟨hx, hb, hml, hown, hts⟩ (k_X1_widen l D ca N ad B tR tK f_1 dd q a b ((if bi = nb sz - 1 then upd (cpyTo (shA sz g (cpyTo e0 shR 8) w bi).2 (bw sz g bi) 16) 15 (nI (sz * 8)) else cpyTo (shA sz g (cpyTo e0 shR 8) w bi).2 (bw sz g bi) 16)) l_q c_q l_b c_b  ) (cwV 0 hts gX1_compute_X1_widen rfl rfl rfl (by decide +kernel) ⟨Nat.le_of_ble_eq_true rfl, Nat.le_of_ble_eq_true rfl⟩) hK hE hB hw l_q c_q rfl rfl rfl rfl hl.1 (Nat.le_of_ble_eq_true rfl) ⟨Nat.zero_le _, Nat.zero_le _⟩ dX1_compute_106 (fun f_2 H locs hp hw => ?_)
        have eu := hp
        have ef_2 : f_2 = va_up f_1 b (ai (ca 0) 64 (wid ((if bi = nb sz - 1 then upd (cpyTo (shA sz g (cpyTo e0 shR 8) w bi).2 (bw sz g bi) 16) 15 (nI (sz * 8)) else cpyTo (shA sz g (cpyTo e0 shR 8) w bi).2 (bw sz g bi) 16)) 48)) := eu
        have c_b : f_2 b = ai (ca 0) 64 (wid ((if bi = nb sz - 1 then upd (cpyTo (shA sz g (cpyTo e0 shR 8) w bi).2 (bw sz g bi) 16) 15 (nI (sz * 8)) else cpyTo (shA sz g (cpyTo e0 shR 8) w bi).2 (bw sz g bi) 16)) 48) := by rw [ef_2, va_up_self]
        refine lv_aload_n hx hb dX1_compute_109 rfl (lv_at hl 0 rfl) ?_
        have c_q : f_2 q = .inr (2, [.ref (ad a), .ref (ad b)]) := by rw [ef_2, va_up_ne _ _ (kd_ne' b_b b_q)]; exact c_q
        have c_a : f_2 a = ai (ca 0) 8 ((shA sz g (cpyTo e0 shR 8) w bi).1) := by rw [ef_2, va_up_ne _ _ (by omega)]; exact c_a
        refine x_Vv (q := q) (As := []) (rest := []) ⟨hx, hb, hml, hown, hts⟩ (k_X1_mix l D ca N ad B tR tK f_2 dd q a b ((shA sz g (cpyTo e0 shR 8) w bi).1) (wid ((if bi = nb sz - 1 then upd (cpyTo (shA sz g (cpyTo e0 shR 8) w bi).2 (bw sz g bi) 16) 15 (nI (sz * 8)) else cpyTo (shA sz g (cpyTo e0 shR 8) w bi).2 (bw sz g bi) 16)) 48) l_q c_q l_a c_a l_b c_b  (by omega)) (cwV 0 hts gX1_compute_X1_mix rfl rfl rfl (by decide +kernel) ⟨Nat.le_of_ble_eq_true rfl, Nat.le_of_ble_eq_true rfl⟩) hK hE hB hw l_q c_q rfl rfl rfl rfl hl.1 (Nat.le_of_ble_eq_true rfl) ⟨Nat.zero_le _, Nat.zero_le _⟩ dX1_compute_110 (fun f_4 H locs hp hw => ?_)
        have eu := hp
        have ef_4 : f_4 = va_up f_2 a (ai (ca 0) 8 (mixTo ((shA sz g (cpyTo e0 shR 8) w bi).1) (rd ((shA sz g (cpyTo e0 shR 8) w bi).1) (wid ((if bi = nb sz - 1 then upd (cpyTo (shA sz g (cpyTo e0 shR 8) w bi).2 (bw sz g bi) 16) 15 (nI (sz * 8)) else cpyTo (shA sz g (cpyTo e0 shR 8) w bi).2 (bw sz g bi) 16)) 48) 64) 8)) := eu
        have c_a : f_4 a = ai (ca 0) 8 (mixTo ((shA sz g (cpyTo e0 shR 8) w bi).1) (rd ((shA sz g (cpyTo e0 shR 8) w bi).1) (wid ((if bi = nb sz - 1 then upd (cpyTo (shA sz g (cpyTo e0 shR 8) w bi).2 (bw sz g bi) 16) 15 (nI (sz * 8)) else cpyTo (shA sz g (cpyTo e0 shR 8) w bi).2 (bw sz g bi) 16)) 48) 64) 8) := by rw [ef_4, va_up_self]
        refine lv_iinc (v := nI (bi + 1)) (lv' := [(4, .int (nI (bi + 1))), (0, .ref (ad q)), (1, .ref (ad o)), (2, .int (nI sz)), (3, .int (nI (((sz + 8) / 64) + 1)))]) hx hb dX1_compute_113 hl (k := 4) rfl (by rw [show Int32.ofInt 1 = nI 1 from rfl]; exact nI_add _ _) (by decide) rfl (fun ls hl => ?_)
        refine lv_goto (tgt := 43) hx hb dX1_compute_116 (by decide) ?_
        have hw : xw D vwCl N ad B s.heap (va_up (va_up f b (ai (ca 0) 64 ((shA sz g (cpyTo e0 shR 8) w (bi + 1)).2))) a (ai (ca 0) 8 ((shA sz g (cpyTo e0 shR 8) w (bi + 1)).1))) H locs := by
          have ez : f_4 = va_up (va_up f b (ai (ca 0) 64 ((shA sz g (cpyTo e0 shR 8) w (bi + 1)).2))) a (ai (ca 0) 8 ((shA sz g (cpyTo e0 shR 8) w (bi + 1)).1)) := by simp only [ef_4, ef_2, ef_1, up_aba _ _ _ _ nab.symm, up_aa]; rfl
          rw [← ez]; exact hw
        exact ih_43 (bi + 1) _ _ _ (by omega) (by omega) hw (lv_sub hl [1, 2, 3, 4, 0] rfl)
      have P_52 : ∀ (n_52 : Nat) (bi : Nat) (i : Nat) (H : Heap) (locs : List Loc) (ls : Array Slot), 16 + 1 ≤ i + n_52 → (bi < (sz + 8) / 64 + 1) → ((sz + 8) / 64 + 1 + 1 ≤ bi + (n_43 + 1)) → (i ≤ 16) → xw D vwCl N ad B s.heap (va_up (va_up f b (ai (ca 0) 64 (cpyTo (shA sz g (cpyTo e0 shR 8) w bi).2 (bw sz g bi) i))) a (ai (ca 0) 8 ((shA sz g (cpyTo e0 shR 8) w bi).1))) H locs → lv_has ls 6 [(0, .ref (ad q)), (1, .ref (ad o)), (2, .int (nI sz)), (3, .int (nI (((sz + 8) / 64) + 1))), (4, .int (nI bi)), (5, .int (nI i))] → W p l e rmX1_compute s m ([.ref (ad q), .ref (ad o)] : List Value).toArray below meth c H locs 0 0 (MQ below (xQv (fun u => ∃ w1 : Nat → Int32, ∃ e1 : Nat → Int32, (∀ j, j < 8 → e1 j = sha sz g j) ∧ u = va_up (va_up f b (ai (ca 0) 64 w1)) a (ai (ca 0) 8 e1)) D N ad B) ([.ref (ad q), .ref (ad o)] : List Value).toArray s 0 0 (xA B)) (F0 m 52 ls []) := by
        intro n_52
        induction n_52 with
        | zero =>
          intro bi i H locs ls hm_52 hbb hu hi hw hl
          exact absurd hm_52 (by omega)
        | succ n_52 ih_52 =>
          intro bi i H locs ls hm_52 hbb hu hi hw hl
          have c_q := b_q
          have c_a := b_a
          have c_b := b_b
          have c_o := b_o
          have c_v := b_v
          obtain ⟨f_6, ef_6⟩ : ∃ z, z = va_up (va_up f b (ai (ca 0) 64 (cpyTo (shA sz g (cpyTo e0 shR 8) w bi).2 (bw sz g bi) i))) a (ai (ca 0) 8 ((shA sz g (cpyTo e0 shR 8) w bi).1)) := ⟨_, rfl⟩
          have hw : xw D vwCl N ad B s.heap f_6 H locs := by rw [ef_6]; exact hw
          have c_b : f_6 b = ai (ca 0) 64 (cpyTo (shA sz g (cpyTo e0 shR 8) w bi).2 (bw sz g bi) i) := by rw [ef_6, va_up_ne _ _ (by omega), va_up_self]
          have c_a : f_6 a = ai (ca 0) 8 ((shA sz g (cpyTo e0 shR 8) w bi).1) := by rw [ef_6, va_up_self]
          refine lv_iload hx hb dX1_compute_52 (lv_at hl 5 rfl) ?_
          refine lv_bipush (v := nI 16) hx hb dX1_compute_54 (by decide) ?_
          refine n_icge (tgt := 86) hx hb dX1_compute_56 (by decide) (by omega) (by omega) (fun c_56 => ?_) (fun c_56 => ?_)
          · refine lv_iload hx hb dX1_compute_86 (lv_at hl 4 rfl) ?_
            refine lv_iload_n hx hb dX1_compute_88 rfl (lv_at hl 3 rfl) ?_
            refine lv_iconst (v := nI 1) hx hb dX1_compute_89 (by decide) ?_
            refine n_isub hx hb dX1_compute_90 (by omega) ?_
            refine n_icne (tgt := 105) hx hb dX1_compute_91 (by decide) (by omega) (by omega) (fun c_91 => ?_) (fun c_91 => ?_)
            · have hw : xw D vwCl N ad B s.heap (va_up (va_up f b (ai (ca 0) 64 ((if bi = nb sz - 1 then upd (cpyTo (shA sz g (cpyTo e0 shR 8) w bi).2 (bw sz g bi) 16) 15 (nI (sz * 8)) else cpyTo (shA sz g (cpyTo e0 shR 8) w bi).2 (bw sz g bi) 16)))) a (ai (ca 0) 8 ((shA sz g (cpyTo e0 shR 8) w bi).1))) H locs := by
                have ez : f_6 = va_up (va_up f b (ai (ca 0) 64 ((if bi = nb sz - 1 then upd (cpyTo (shA sz g (cpyTo e0 shR 8) w bi).2 (bw sz g bi) 16) 15 (nI (sz * 8)) else cpyTo (shA sz g (cpyTo e0 shR 8) w bi).2 (bw sz g bi) 16)))) a (ai (ca 0) 8 ((shA sz g (cpyTo e0 shR 8) w bi).1)) := by have ei : i = 16 := (by omega); subst ei; rw [if_neg (show ¬ bi = nb sz - 1 from c_91)]; simp only [ef_6]
                rw [← ez]; exact hw
              exact P_105 bi _ _ _ (by omega) (by omega) hw (lv_sub hl [0, 1, 2, 3, 4] rfl)
            · refine lv_aload_n hx hb dX1_compute_94 rfl (lv_at hl 0 rfl) ?_
              have c_q : f_6 q = .inr (2, [.ref (ad a), .ref (ad b)]) := by rw [ef_6, va_up_ne _ _ (kd_ne' b_a b_q), va_up_ne _ _ (kd_ne' b_b b_q)]; exact c_q
              refine x_get (ci := 2) (C := RX1) (T := TX1) (n := 2) (ref := RX1) hx hb hts hin_2 hown hK hw q l_q c_q rfl 1 (by decide) hf_15 (fun _ h => h) rfl dX1_compute_95 ?_
              refine lv_bipush (v := nI 15) hx hb dX1_compute_98 (by decide) ?_
              refine lv_iload_n hx hb dX1_compute_100 rfl (lv_at hl 2 rfl) ?_
              refine lv_bipush (v := nI 8) hx hb dX1_compute_101 (by decide) ?_
              refine n_imul hx hb dX1_compute_103 ?_
              refine x_iast (j := 15) hx hb hK dd hw b 0 l_b c_b rfl rfl (by omega) (by decide) dX1_compute_104 (fun H locs hw => ?_)
              obtain ⟨f_7, ef_7⟩ : ∃ z, z = va_up f_6 b (ai (ca 0) 64 (upd (cpyTo (shA sz g (cpyTo e0 shR 8) w bi).2 (bw sz g bi) i) 15 (nI (sz * 8)))) := ⟨_, rfl⟩
              have hw : xw D vwCl N ad B s.heap f_7 H locs := by rw [ef_7]; exact hw
              have c_b : f_7 b = ai (ca 0) 64 (upd (cpyTo (shA sz g (cpyTo e0 shR 8) w bi).2 (bw sz g bi) i) 15 (nI (sz * 8))) := va_up_of ef_7
              have hw : xw D vwCl N ad B s.heap (va_up (va_up f b (ai (ca 0) 64 ((if bi = nb sz - 1 then upd (cpyTo (shA sz g (cpyTo e0 shR 8) w bi).2 (bw sz g bi) 16) 15 (nI (sz * 8)) else cpyTo (shA sz g (cpyTo e0 shR 8) w bi).2 (bw sz g bi) 16)))) a (ai (ca 0) 8 ((shA sz g (cpyTo e0 shR 8) w bi).1))) H locs := by
                have ez : f_7 = va_up (va_up f b (ai (ca 0) 64 ((if bi = nb sz - 1 then upd (cpyTo (shA sz g (cpyTo e0 shR 8) w bi).2 (bw sz g bi) 16) 15 (nI (sz * 8)) else cpyTo (shA sz g (cpyTo e0 shR 8) w bi).2 (bw sz g bi) 16)))) a (ai (ca 0) 8 ((shA sz g (cpyTo e0 shR 8) w bi).1)) := by have ei : i = 16 := (by omega); subst ei; rw [if_pos (show bi = nb sz - 1 from c_91)]; simp only [ef_7, ef_6, up_aba _ _ _ _ nab.symm]
                rw [← ez]; exact hw
              exact P_105 bi _ _ _ (by omega) (by omega) hw (lv_sub hl [0, 1, 2, 3, 4] rfl)
          · refine lv_aload_n hx hb dX1_compute_59 rfl (lv_at hl 0 rfl) ?_
            have c_q : f_6 q = .inr (2, [.ref (ad a), .ref (ad b)]) := by rw [ef_6, va_up_ne _ _ (kd_ne' b_a b_q), va_up_ne _ _ (kd_ne' b_b b_q)]; exact c_q
            refine x_get (ci := 2) (C := RX1) (T := TX1) (n := 2) (ref := RX1) hx hb hts hin_2 hown hK hw q l_q c_q rfl 1 (by decide) hf_15 (fun _ h => h) rfl dX1_compute_60 ?_
            refine lv_iload hx hb dX1_compute_63 (lv_at hl 5 rfl) ?_
            refine lv_aload_n hx hb dX1_compute_65 rfl (lv_at hl 1 rfl) ?_
            refine lv_iload hx hb dX1_compute_66 (lv_at hl 4 rfl) ?_
            refine lv_bipush (v := nI 64) hx hb dX1_compute_68 (by decide) ?_
            refine n_imul hx hb dX1_compute_70 ?_
            refine lv_iload hx hb dX1_compute_71 (lv_at hl 5 rfl) ?_
            refine lv_iconst (v := nI 4) hx hb dX1_compute_73 (by decide) ?_
            refine n_imul hx hb dX1_compute_74 ?_
            refine n_iadd hx hb dX1_compute_75 ?_
            have c_o : f_6 o = .inr (3, [.ref (ad v), .int (nI sz)]) := by rw [ef_6, va_up_ne _ _ (kd_ne' b_a b_o), va_up_ne _ _ (kd_ne' b_b b_o)]; exact c_o
            have c_v : f_6 v = ai (ca 0) 200 g := by rw [ef_6, va_up_ne _ _ (by omega), va_up_ne _ _ (by omega)]; exact c_v
            refine x_Si (As := [.ref (ad o), .int (nI ((bi * 64) + (i * 4)))]) (rest := [.int (nI i), .ref (ad b)]) ⟨hx, hb, hml, hown, hts⟩ (k_X1_paddedWord l D ca N ad B tR tK f_6 dd o v sz g ((bi * 64) + (i * 4)) l_o c_o l_v c_v  (by omega) (by omega)) (va_cwS 2 hts gX1_compute_X1_paddedWord rfl rfl rfl (by decide +kernel) ⟨Nat.le_of_ble_eq_true rfl, Nat.le_of_ble_eq_true rfl⟩) hK hE hB hw rfl rfl hl.1 (Nat.le_of_ble_eq_true rfl) ⟨Nat.zero_le _, Nat.zero_le _⟩ dX1_compute_76 (fun r_9 f_8 H locs hp hw => ?_)
            obtain ⟨er, eu⟩ := hp
            rw [← er]
            rw [← eu] at hw
            refine lv_topi (fun x_10 ex_10 => ?_)
            refine x_iast (j := i) hx hb hK dd hw b 0 l_b c_b rfl rfl (by omega) (by decide) dX1_compute_79 (fun H locs hw => ?_)
            obtain ⟨f_11, ef_11⟩ : ∃ z, z = va_up f_6 b (ai (ca 0) 64 (upd (cpyTo (shA sz g (cpyTo e0 shR 8) w bi).2 (bw sz g bi) i) i x_10)) := ⟨_, rfl⟩
            have hw : xw D vwCl N ad B s.heap f_11 H locs := by rw [ef_11]; exact hw
            have c_b : f_11 b = ai (ca 0) 64 (upd (cpyTo (shA sz g (cpyTo e0 shR 8) w bi).2 (bw sz g bi) i) i x_10) := va_up_of ef_11
            refine lv_iinc (v := nI (i + 1)) (lv' := [(5, .int (nI (i + 1))), (0, .ref (ad q)), (1, .ref (ad o)), (2, .int (nI sz)), (3, .int (nI (((sz + 8) / 64) + 1))), (4, .int (nI bi))]) hx hb dX1_compute_80 hl (k := 5) rfl (by rw [show Int32.ofInt 1 = nI 1 from rfl]; exact nI_add _ _) (by decide) rfl (fun ls hl => ?_)
            refine lv_goto (tgt := 52) hx hb dX1_compute_83 (by decide) ?_
            have hw : xw D vwCl N ad B s.heap (va_up (va_up f b (ai (ca 0) 64 (cpyTo (shA sz g (cpyTo e0 shR 8) w bi).2 (bw sz g bi) (i + 1)))) a (ai (ca 0) 8 ((shA sz g (cpyTo e0 shR 8) w bi).1))) H locs := by
              have ez : f_11 = va_up (va_up f b (ai (ca 0) 64 (cpyTo (shA sz g (cpyTo e0 shR 8) w bi).2 (bw sz g bi) (i + 1)))) a (ai (ca 0) 8 ((shA sz g (cpyTo e0 shR 8) w bi).1)) := by simp only [ef_11, ex_10, ef_6, up_aba _ _ _ _ nab.symm]; rw [← cp_step _ (bw sz g bi) i]; rfl
              rw [← ez]; exact hw
            exact ih_52 bi (i + 1) _ _ _ (by omega) (by omega) (by omega) (by omega) hw (lv_sub hl [1, 2, 3, 4, 5, 0] rfl)
      have c_q := b_q
      have c_a := b_a
      have c_b := b_b
      have c_o := b_o
      have c_v := b_v
      obtain ⟨f_12, ef_12⟩ : ∃ z, z = va_up (va_up f b (ai (ca 0) 64 ((shA sz g (cpyTo e0 shR 8) w bi).2))) a (ai (ca 0) 8 ((shA sz g (cpyTo e0 shR 8) w bi).1)) := ⟨_, rfl⟩
      have hw : xw D vwCl N ad B s.heap f_12 H locs := by rw [ef_12]; exact hw
      have c_b : f_12 b = ai (ca 0) 64 ((shA sz g (cpyTo e0 shR 8) w bi).2) := by rw [ef_12, va_up_ne _ _ (by omega), va_up_self]
      have c_a : f_12 a = ai (ca 0) 8 ((shA sz g (cpyTo e0 shR 8) w bi).1) := by rw [ef_12, va_up_self]
      refine lv_iload hx hb dX1_compute_43 (lv_at hl 4 rfl) ?_
      refine lv_iload_n hx hb dX1_compute_45 rfl (lv_at hl 3 rfl) ?_
      refine n_icge (tgt := 119) hx hb dX1_compute_46 (by decide) (by omega) (by omega) (fun c_46 => ?_) (fun c_46 => ?_)
      · exact x_vret hx hb hr hlocks hw ⟨(shA sz g (cpyTo e0 shR 8) w (nb sz)).2, _, sha_of (e := cpyTo e0 shR 8) (w := w) (fun j hj => cp_in hj), (by have ei : bi = nb sz := Nat.le_antisymm hb0 c_46; subst ei; simp only [ef_12])⟩ dX1_compute_119
      · refine lv_iconst (v := nI 0) hx hb dX1_compute_49 (by decide) ?_
        refine lv_istore (lv' := [(5, .int (nI 0)), (0, .ref (ad q)), (1, .ref (ad o)), (2, .int (nI sz)), (3, .int (nI (((sz + 8) / 64) + 1))), (4, .int (nI bi))]) hx hb dX1_compute_50 hl (by decide) rfl (fun ls hl => ?_)
        have hw : xw D vwCl N ad B s.heap (va_up (va_up f b (ai (ca 0) 64 (cpyTo (shA sz g (cpyTo e0 shR 8) w bi).2 (bw sz g bi) 0))) a (ai (ca 0) 8 ((shA sz g (cpyTo e0 shR 8) w bi).1))) H locs := by
          have ez : f_12 = va_up (va_up f b (ai (ca 0) 64 (cpyTo (shA sz g (cpyTo e0 shR 8) w bi).2 (bw sz g bi) 0))) a (ai (ca 0) 8 ((shA sz g (cpyTo e0 shR 8) w bi).1)) := by rw [ef_12, cp_0]
          rw [← ez]; exact hw
        exact P_52 17 bi 0 _ _ _ (by omega) (by omega) (by omega) (by omega) hw (lv_sub hl [1, 2, 3, 4, 5, 0] rfl)
  have P_2 : ∀ (n_2 : Nat) (i : Nat) (H : Heap) (locs : List Loc) (ls : Array Slot), 8 + 1 ≤ i + n_2 → (i ≤ 8) → xw D vwCl N ad B s.heap (va_up f a (ai (ca 0) 8 (cpyTo e0 shR i))) H locs → lv_has ls 6 [(0, .ref (ad q)), (1, .ref (ad o)), (2, .int (nI i))] → W p l e rmX1_compute s m ([.ref (ad q), .ref (ad o)] : List Value).toArray below meth c H locs 0 0 (MQ below (xQv (fun u => ∃ w1 : Nat → Int32, ∃ e1 : Nat → Int32, (∀ j, j < 8 → e1 j = sha sz g j) ∧ u = va_up (va_up f b (ai (ca 0) 64 w1)) a (ai (ca 0) 8 e1)) D N ad B) ([.ref (ad q), .ref (ad o)] : List Value).toArray s 0 0 (xA B)) (F0 m 2 ls []) := by
    intro n_2
    induction n_2 with
    | zero =>
      intro i H locs ls hm_2 hi hw hl
      exact absurd hm_2 (by omega)
    | succ n_2 ih_2 =>
      intro i H locs ls hm_2 hi hw hl
      have c_q := b_q
      have c_a := b_a
      have c_b := b_b
      have c_o := b_o
      have c_v := b_v
      obtain ⟨f_13, ef_13⟩ : ∃ z, z = va_up f a (ai (ca 0) 8 (cpyTo e0 shR i)) := ⟨_, rfl⟩
      have hw : xw D vwCl N ad B s.heap f_13 H locs := by rw [ef_13]; exact hw
      have c_a : f_13 a = ai (ca 0) 8 (cpyTo e0 shR i) := by rw [ef_13, va_up_self]
      refine lv_iload_n hx hb dX1_compute_2 rfl (lv_at hl 2 rfl) ?_
      refine lv_bipush (v := nI 8) hx hb dX1_compute_3 (by decide) ?_
      refine n_icge (tgt := 25) hx hb dX1_compute_5 (by decide) (by omega) (by omega) (fun c_5 => ?_) (fun c_5 => ?_)
      · refine lv_aload_n hx hb dX1_compute_25 rfl (lv_at hl 1 rfl) ?_
        have c_o : f_13 o = .inr (3, [.ref (ad v), .int (nI sz)]) := by rw [ef_13, va_up_ne _ _ (kd_ne' b_a b_o)]; exact c_o
        refine x_Vi (q := o) (As := []) (rest := []) ⟨hx, hb, hml, hown, hts⟩ (k_X2_count l D ca N ad B tR tK f_13 dd o v sz l_o c_o  ) (cwV 0 hts gX1_compute_X2_count rfl rfl rfl (by decide +kernel) ⟨Nat.le_of_ble_eq_true rfl, Nat.le_of_ble_eq_true rfl⟩) hK hE hB hw l_o c_o rfl rfl rfl rfl hl.1 (Nat.le_of_ble_eq_true rfl) ⟨Nat.zero_le _, Nat.zero_le _⟩ dX1_compute_26 (fun r_15 f_14 H locs hp hw => ?_)
        obtain ⟨er, eu⟩ := hp
        rw [← er]
        rw [← eu] at hw
        refine lv_istore_n (lv' := [(2, .int (nI sz)), (0, .ref (ad q)), (1, .ref (ad o))]) hx hb dX1_compute_29 rfl hl (by decide) rfl (fun ls hl => ?_)
        refine lv_iload_n hx hb dX1_compute_30 rfl (lv_at hl 0 rfl) ?_
        refine lv_bipush (v := nI 8) hx hb dX1_compute_31 (by decide) ?_
        refine n_iadd hx hb dX1_compute_33 ?_
        refine lv_bipush (v := nI 64) hx hb dX1_compute_34 (by decide) ?_
        refine n_idiv hx hb dX1_compute_36 (by omega) (by omega) (by omega) ?_
        refine lv_iconst (v := nI 1) hx hb dX1_compute_37 (by decide) ?_
        refine n_iadd hx hb dX1_compute_38 ?_
        refine lv_istore_n (lv' := [(3, .int (nI (((sz + 8) / 64) + 1))), (2, .int (nI sz)), (0, .ref (ad q)), (1, .ref (ad o))]) hx hb dX1_compute_39 rfl hl (by decide) rfl (fun ls hl => ?_)
        refine lv_iconst (v := nI 0) hx hb dX1_compute_40 (by decide) ?_
        refine lv_istore (lv' := [(4, .int (nI 0)), (3, .int (nI (((sz + 8) / 64) + 1))), (2, .int (nI sz)), (0, .ref (ad q)), (1, .ref (ad o))]) hx hb dX1_compute_41 hl (by decide) rfl (fun ls hl => ?_)
        have hw : xw D vwCl N ad B s.heap (va_up (va_up f b (ai (ca 0) 64 ((shA sz g (cpyTo e0 shR 8) w 0).2))) a (ai (ca 0) 8 ((shA sz g (cpyTo e0 shR 8) w 0).1))) H locs := by
          have ez : f_13 = va_up (va_up f b (ai (ca 0) 64 ((shA sz g (cpyTo e0 shR 8) w 0).2))) a (ai (ca 0) 8 ((shA sz g (cpyTo e0 shR 8) w 0).1)) := by have ei : i = 8 := (by omega); subst ei; rw [ef_13]; show _ = va_up (va_up f b (ai (ca 0) 64 w)) a (ai (ca 0) 8 (cpyTo e0 shR 8)); rw [← b_b, up_same]
          rw [← ez]; exact hw
        exact P_43 ((((sz + 8) / 64) + 1 + 1)) 0 _ _ _ (by omega) (by omega) hw (lv_sub hl [3, 4, 2, 1, 0] rfl)
      · refine lv_aload_n hx hb dX1_compute_8 rfl (lv_at hl 0 rfl) ?_
        have c_q : f_13 q = .inr (2, [.ref (ad a), .ref (ad b)]) := by rw [ef_13, va_up_ne _ _ (kd_ne' b_a b_q)]; exact c_q
        refine x_get (ci := 2) (C := RX1) (T := TX1) (n := 2) (ref := RX1) hx hb hts hin_2 hown hK hw q l_q c_q rfl 0 (by decide) hf_9 (fun _ h => h) rfl dX1_compute_9 ?_
        refine lv_iload_n hx hb dX1_compute_12 rfl (lv_at hl 2 rfl) ?_
        refine x_roots hx hb hE hw hown hf_18 dX1_compute_13 ?_
        refine lv_iload_n hx hb dX1_compute_16 rfl (lv_at hl 2 rfl) ?_
        refine x_root hx hb hE hw (rfl : nI i = nI i) (by omega) dX1_compute_17 ?_
        refine lv_topi (fun x_16 ex_16 => ?_)
        refine x_iast (j := i) hx hb hK dd hw a 0 l_a c_a rfl rfl (by omega) (by decide) dX1_compute_18 (fun H locs hw => ?_)
        obtain ⟨f_17, ef_17⟩ : ∃ z, z = va_up f_13 a (ai (ca 0) 8 (upd (cpyTo e0 shR i) i x_16)) := ⟨_, rfl⟩
        have hw : xw D vwCl N ad B s.heap f_17 H locs := by rw [ef_17]; exact hw
        have c_a : f_17 a = ai (ca 0) 8 (upd (cpyTo e0 shR i) i x_16) := va_up_of ef_17
        refine lv_iinc (v := nI (i + 1)) (lv' := [(2, .int (nI (i + 1))), (0, .ref (ad q)), (1, .ref (ad o))]) hx hb dX1_compute_19 hl (k := 2) rfl (by rw [show Int32.ofInt 1 = nI 1 from rfl]; exact nI_add _ _) (by decide) rfl (fun ls hl => ?_)
        refine lv_goto (tgt := 2) hx hb dX1_compute_22 (by decide) ?_
        have hw : xw D vwCl N ad B s.heap (va_up f a (ai (ca 0) 8 (cpyTo e0 shR (i + 1)))) H locs := by
          have ez : f_17 = va_up f a (ai (ca 0) 8 (cpyTo e0 shR (i + 1))) := by simp only [ef_17, ex_16, ef_13, up_aa, cp_step]
          rw [← ez]; exact hw
        exact ih_2 (i + 1) _ _ _ (by omega) (by omega) hw (lv_sub hl [1, 2, 0] rfl)
  refine lv_iconst (v := nI 0) hx hb dX1_compute_0 (by decide) ?_
  refine lv_istore_n (lv' := [(2, .int (nI 0)), (0, .ref (ad q)), (1, .ref (ad o))]) hx hb dX1_compute_1 rfl hl (by decide) rfl (fun ls hl => ?_)
  have hw : xw D vwCl N ad B s.heap (va_up f a (ai (ca 0) 8 (cpyTo e0 shR 0))) s.heap [] := by
    have ez : f = va_up f a (ai (ca 0) 8 (cpyTo e0 shR 0)) := by rw [cp_0, ← c_a, up_same]
    rw [← ez]; exact hw
  exact P_2 9 0 _ _ _ (by omega) (by omega) hw (lv_sub hl [1, 2, 0] rfl)
end
section
/-! ===== ALGORITHM 1 as numbers ===== -/
def crcS (x : Int32) : Int32 := if x &&& nI 1 = 0 then jushr x (nI 1) else jushr x (nI 1) ^^^ (-306674912)
def crcN (x : Int32) : Nat → Int32
  | 0 => x
  | k + 1 => crcS (crcN x k)
/-- a byte more -/
def crcB (r b : Int32) : Int32 := jushr r (nI 8) ^^^ crcN ((r ^^^ b) &&& nI 255) 8
def crcR (g : Nat → Int32) : Nat → Int32
  | 0 => (-1)
  | i + 1 => crcB (crcR g i) (g i)
/-- the digest by ALGORITHM 1 of n bytes g -/
def crc (n : Nat) (g : Nat → Int32) : Int32 := crcR g n ^^^ (-1)
theorem crcR_ext {g g' : Nat → Int32} : ∀ n, (∀ i, i < n → g i = g' i) → crcR g n = crcR g' n := by
  intro n
  induction n with
  | zero => intro _; rfl
  | succ n ih =>
    intro h
    show crcB (crcR g n) (g n) = crcB (crcR g' n) (g' n)
    rw [ih (fun i hi => h i (by omega)), h n (by omega)]
theorem crc_ext {n : Nat} {g g' : Nat → Int32} (h : ∀ i, i < n → g i = g' i) : crc n g = crc n g' := by
  unfold crc
  rw [crcR_ext n h]
end
section
abbrev rmX4_entry : Room := { frames := 0, cells := 0, slots := 0, locals := 0 }

set_option maxHeartbeats 4000000 in
set_option maxRecDepth 100000 in
theorem k_X4_entry (l : Launch) (D : va_G) (ca : Nat → ClassId) (N : Nat) (ad : Nat → Nat) (B tR tK : Nat) (f : Nat → va_E) (dd : xD N ad B) (x : Int32)    : xMi l yX4_entry wsX4_entry rmX4_entry [.int x] D ca N ad B tR tK f (fun r u => crcN x 8 = r ∧ f = u) := by
  refine x_open (cc := cX4_entry) (maxL := 4) (ret := (some .int)) (by decide) rfl (Nat.le_of_ble_eq_true rfl) ?_
  intro p e s m below meth c ls hx hb hml hown hts hr hlocks hnm hB hK hE hw hl
  have hown : s.vm.findClass RX4 = some m.cls := hown
  have hl : lv_has ls 4 [(0, .int x)] := hl
  have P_4 : ∀ (n_4 : Nat) (i : Nat) (H : Heap) (locs : List Loc) (ls : Array Slot), 8 + 1 ≤ i + n_4 → (i ≤ 8) → xw D vwCl N ad B s.heap (f) H locs → lv_has ls 4 [(0, .int x), (1, .int (crcN x i)), (2, .int (nI i))] → W p l e rmX4_entry s m ([.int x] : List Value).toArray below meth c H locs 0 0 (MQ below (xQi (fun r u => crcN x 8 = r ∧ f = u) D N ad B) ([.int x] : List Value).toArray s 0 0 (xA B)) (F0 m 4 ls []) := by
    intro n_4
    induction n_4 with
    | zero =>
      intro i H locs ls hm_4 hi hw hl
      exact absurd hm_4 (by omega)
    | succ n_4 ih_4 =>
      intro i H locs ls hm_4 hi hw hl
      refine lv_iload_n hx hb dX4_entry_4 rfl (lv_at hl 2 rfl) ?_
      refine lv_bipush (v := nI 8) hx hb dX4_entry_5 (by decide) ?_
      refine n_icge (tgt := 41) hx hb dX4_entry_7 (by decide) (by omega) (by omega) (fun c_7 => ?_) (fun c_7 => ?_)
      · refine lv_iload_n hx hb dX4_entry_41 rfl (lv_at hl 1 rfl) ?_
        exact x_iret hx hb hr hlocks hw (by have ei : i = 8 := (by omega); subst ei; exact ⟨rfl, rfl⟩) dX4_entry_42
      · refine lv_iload_n hx hb dX4_entry_10 rfl (lv_at hl 1 rfl) ?_
        refine lv_iconst (v := nI 1) hx hb dX4_entry_11 (by decide) ?_
        refine lv_iand hx hb dX4_entry_12 ?_
        refine lv_if_eq (tgt := 20) hx hb dX4_entry_13 (by decide) (fun c_13 => ?_) (fun c_13 => ?_)
        · refine lv_iconst (v := nI 0) hx hb dX4_entry_20 (by decide) ?_
          refine lv_istore_n (lv' := [(3, .int (nI 0)), (0, .int x), (1, .int (crcN x i)), (2, .int (nI i))]) hx hb dX4_entry_21 rfl hl (by decide) rfl (fun ls hl => ?_)
          refine lv_iload_n hx hb dX4_entry_22 rfl (lv_at hl 2 rfl) ?_
          refine lv_iconst (v := nI 1) hx hb dX4_entry_23 (by decide) ?_
          refine n_iushr hx hb dX4_entry_24 ?_
          refine lv_topi (fun x_1 ex_1 => ?_)
          refine lv_istore_n (lv' := [(1, .int x_1), (3, .int (nI 0)), (0, .int x), (2, .int (nI i))]) hx hb dX4_entry_25 rfl hl (by decide) rfl (fun ls hl => ?_)
          refine lv_iload_n hx hb dX4_entry_26 rfl (lv_at hl 1 rfl) ?_
          refine lv_if_eq (tgt := 35) hx hb dX4_entry_27 (by decide) (fun _ => ?_) (fun h => False.elim (h (by decide)))
          refine lv_iinc (v := nI (i + 1)) (lv' := [(2, .int (nI (i + 1))), (1, .int x_1), (3, .int (nI 0)), (0, .int x)]) hx hb dX4_entry_35 hl (k := 3) rfl (by rw [show Int32.ofInt 1 = nI 1 from rfl]; exact nI_add _ _) (by decide) rfl (fun ls hl => ?_)
          refine lv_goto (tgt := 4) hx hb dX4_entry_38 (by decide) ?_
          exact ih_4 (i + 1) _ _ _ (by omega) (by omega) hw (by have hl := lv_sub (l' := [(0, .int x), (1, .int x_1), (2, .int (nI (i + 1)))]) hl [3, 1, 0] rfl; simp only [ex_1] at hl; first | (rw [show crcN x (i + 1) = jushr (crcN x i) (nI 1) from if_pos c_13]; exact hl) | (rw [show crcN x (i + 1) = jushr (crcN x i) (nI 1) ^^^ (-306674912) from if_neg c_13]; exact hl))
        · refine lv_iconst (v := nI 1) hx hb dX4_entry_16 (by decide) ?_
          refine lv_goto (tgt := 21) hx hb dX4_entry_17 (by decide) ?_
          refine lv_istore_n (lv' := [(3, .int (nI 1)), (0, .int x), (1, .int (crcN x i)), (2, .int (nI i))]) hx hb dX4_entry_21 rfl hl (by decide) rfl (fun ls hl => ?_)
          refine lv_iload_n hx hb dX4_entry_22 rfl (lv_at hl 2 rfl) ?_
          refine lv_iconst (v := nI 1) hx hb dX4_entry_23 (by decide) ?_
          refine n_iushr hx hb dX4_entry_24 ?_
          refine lv_topi (fun x_2 ex_2 => ?_)
          refine lv_istore_n (lv' := [(1, .int x_2), (3, .int (nI 1)), (0, .int x), (2, .int (nI i))]) hx hb dX4_entry_25 rfl hl (by decide) rfl (fun ls hl => ?_)
          refine lv_iload_n hx hb dX4_entry_26 rfl (lv_at hl 1 rfl) ?_
          refine lv_if_eq (tgt := 35) hx hb dX4_entry_27 (by decide) (fun h => absurd h (by decide)) (fun _ => ?_)
          refine lv_iload_n hx hb dX4_entry_30 rfl (lv_at hl 0 rfl) ?_
          refine lv_ldc (v := (-306674912)) hx hb hown (hts (.constant RX4 26 (-306674912)) (by decide +kernel)) dX4_entry_31 ?_
          refine lv_ixor hx hb dX4_entry_33 ?_
          refine lv_topi (fun x_3 ex_3 => ?_)
          refine lv_istore_n (lv' := [(1, .int x_3), (3, .int (nI 1)), (0, .int x), (2, .int (nI i))]) hx hb dX4_entry_34 rfl hl (by decide) rfl (fun ls hl => ?_)
          refine lv_iinc (v := nI (i + 1)) (lv' := [(2, .int (nI (i + 1))), (1, .int x_3), (3, .int (nI 1)), (0, .int x)]) hx hb dX4_entry_35 hl (k := 3) rfl (by rw [show Int32.ofInt 1 = nI 1 from rfl]; exact nI_add _ _) (by decide) rfl (fun ls hl => ?_)
          refine lv_goto (tgt := 4) hx hb dX4_entry_38 (by decide) ?_
          exact ih_4 (i + 1) _ _ _ (by omega) (by omega) hw (by have hl := lv_sub (l' := [(0, .int x), (1, .int x_3), (2, .int (nI (i + 1)))]) hl [3, 1, 0] rfl; simp only [ex_3, ex_2] at hl; first | (rw [show crcN x (i + 1) = jushr (crcN x i) (nI 1) from if_pos c_13]; exact hl) | (rw [show crcN x (i + 1) = jushr (crcN x i) (nI 1) ^^^ (-306674912) from if_neg c_13]; exact hl))
  refine lv_iload_n hx hb dX4_entry_0 rfl (lv_at hl 0 rfl) ?_
  refine lv_istore_n (lv' := [(1, .int x), (0, .int x)]) hx hb dX4_entry_1 rfl hl (by decide) rfl (fun ls hl => ?_)
  refine lv_iconst (v := nI 0) hx hb dX4_entry_2 (by decide) ?_
  refine lv_istore_n (lv' := [(2, .int (nI 0)), (1, .int x), (0, .int x)]) hx hb dX4_entry_3 rfl hl (by decide) rfl (fun ls hl => ?_)
  exact P_4 9 0 _ _ _ (by omega) (by omega) hw (lv_sub hl [2, 1, 0] rfl)

abbrev rmX4_compute : Room := { frames := 1, cells := 0, slots := 0, locals := 21 }

set_option maxHeartbeats 4000000 in
set_option maxRecDepth 100000 in
theorem k_X4_compute (l : Launch) (D : va_G) (ca : Nat → ClassId) (N : Nat) (ad : Nat → Nat) (B tR tK : Nat) (f : Nat → va_E) (dd : xD N ad B) (q : Nat) (t : Nat) (tb : Nat → Int32) (o : Nat) (v : Nat) (sz : Nat) (g : Nat → Int32) (l_q : q < N) (c_q : f q = .inr (5, [.ref (ad t)])) (l_t : t < N) (c_t : f t = ai (ca 0) 256 tb) (l_o : o < N) (c_o : f o = .inr (3, [.ref (ad v), .int (nI sz)])) (l_v : v < N) (c_v : f v = ai (ca 0) 200 g)  (hn : sz ≤ 200) (hT : ∀ j, j < 256 → tb j = crcN (nI j) 8) : xMi l yX4_compute wsX4_compute rmX4_compute [.ref (ad q), .ref (ad o)] D ca N ad B tR tK f (fun r u => crc sz g = r ∧ f = u) := by
  refine x_open (cc := cX4_compute) (maxL := 4) (ret := (some .int)) (by decide) rfl (Nat.le_of_ble_eq_true rfl) ?_
  intro p e s m below meth c ls hx hb hml hown hts hr hlocks hnm hB hK hE hw hl
  have hown : s.vm.findClass RX4 = some m.cls := hown
  have hl : lv_has ls 4 [(0, .ref (ad q)), (1, .ref (ad o))] := hl
  have hin_5 : ∀ w ∈ u_ws RX4 TX4 1, w ∈ wsX4_compute := by decide +kernel
  have hf_9 := hts (.fieldLink RX4 9 "FixityRows$ShortDigest" "table" "[I") (by decide +kernel)
  have b_q := c_q
  have b_t := c_t
  have b_o := c_o
  have b_v := c_v
  have P_4 : ∀ (n_4 : Nat) (i : Nat) (H : Heap) (locs : List Loc) (ls : Array Slot), sz + 1 ≤ i + n_4 → (i ≤ sz) → xw D vwCl N ad B s.heap (f) H locs → lv_has ls 4 [(0, .ref (ad q)), (1, .ref (ad o)), (2, .int (crcR g i)), (3, .int (nI i))] → W p l e rmX4_compute s m ([.ref (ad q), .ref (ad o)] : List Value).toArray below meth c H locs 0 0 (MQ below (xQi (fun r u => crc sz g = r ∧ f = u) D N ad B) ([.ref (ad q), .ref (ad o)] : List Value).toArray s 0 0 (xA B)) (F0 m 4 ls []) := by
    intro n_4
    induction n_4 with
    | zero =>
      intro i H locs ls hm_4 hi hw hl
      exact absurd hm_4 (by omega)
    | succ n_4 ih_4 =>
      intro i H locs ls hm_4 hi hw hl
      have c_q := b_q
      have c_t := b_t
      have c_o := b_o
      have c_v := b_v
      refine lv_iload_n hx hb dX4_compute_4 rfl (lv_at hl 3 rfl) ?_
      refine lv_aload_n hx hb dX4_compute_5 rfl (lv_at hl 1 rfl) ?_
      refine x_Vi (q := o) (As := []) (rest := [.int (nI i)]) ⟨hx, hb, hml, hown, hts⟩ (k_X2_count l D ca N ad B tR tK f dd o v sz l_o c_o  ) (cwV 0 hts gX4_compute_X2_count rfl rfl rfl (by decide +kernel) ⟨Nat.le_of_ble_eq_true rfl, Nat.le_of_ble_eq_true rfl⟩) hK hE hB hw l_o c_o rfl rfl rfl rfl hl.1 (Nat.le_of_ble_eq_true rfl) ⟨Nat.zero_le _, Nat.zero_le _⟩ dX4_compute_6 (fun r_2 f_1 H locs hp hw => ?_)
      obtain ⟨er, eu⟩ := hp
      rw [← er]
      rw [← eu] at hw
      refine n_icge (tgt := 40) hx hb dX4_compute_9 (by decide) (by omega) (by omega) (fun c_9 => ?_) (fun c_9 => ?_)
      · refine lv_iload_n hx hb dX4_compute_40 rfl (lv_at hl 2 rfl) ?_
        refine lv_iconst (v := (-1)) hx hb dX4_compute_41 (by decide) ?_
        refine lv_ixor hx hb dX4_compute_42 ?_
        exact x_iret hx hb hr hlocks hw (by have ei : i = sz := (by omega); subst ei; exact ⟨rfl, rfl⟩) dX4_compute_43
      · refine lv_iload_n hx hb dX4_compute_12 rfl (lv_at hl 2 rfl) ?_
        refine lv_bipush (v := nI 8) hx hb dX4_compute_13 (by decide) ?_
        refine n_iushr hx hb dX4_compute_15 ?_
        refine lv_aload_n hx hb dX4_compute_16 rfl (lv_at hl 0 rfl) ?_
        refine x_get (ci := 5) (C := RX4) (T := TX4) (n := 1) (ref := RX4) hx hb hts hin_5 hown hK hw q l_q c_q rfl 0 (by decide) hf_9 (fun _ h => h) rfl dX4_compute_17 ?_
        refine lv_iload_n hx hb dX4_compute_20 rfl (lv_at hl 2 rfl) ?_
        refine lv_aload_n hx hb dX4_compute_21 rfl (lv_at hl 1 rfl) ?_
        refine lv_iload_n hx hb dX4_compute_22 rfl (lv_at hl 3 rfl) ?_
        refine x_Vi (q := o) (As := [.int (nI i)]) (rest := [.int (crcR g i), .ref (ad t), .int (jushr (crcR g i) (nI 8))]) ⟨hx, hb, hml, hown, hts⟩ (k_X2_value_in l D ca N ad B tR tK f dd o v sz i g l_o c_o l_v c_v  (by omega) (by omega)) (cwV 1 hts gX4_compute_X2_value rfl rfl rfl (by decide +kernel) ⟨Nat.le_of_ble_eq_true rfl, Nat.le_of_ble_eq_true rfl⟩) hK hE hB hw l_o c_o rfl rfl rfl rfl hl.1 (Nat.le_of_ble_eq_true rfl) ⟨Nat.zero_le _, Nat.zero_le _⟩ dX4_compute_23 (fun r_4 f_3 H locs hp hw => ?_)
        obtain ⟨er, eu⟩ := hp
        rw [← er]
        rw [← eu] at hw
        refine lv_ixor hx hb dX4_compute_26 ?_
        refine lv_sipush (v := nI 255) hx hb dX4_compute_27 (by decide) ?_
        refine lv_iand hx hb dX4_compute_30 ?_
        obtain ⟨jj, hjj, ejj⟩ := pk_andE (crcR g i ^^^ g i) (m := nI 255) 8 (by decide)
        refine x_iald (j := jj) hx hb hK hw t 0 l_t c_t rfl ejj hjj (by decide) dX4_compute_31 ?_
        rw [hT jj hjj, ← ejj]
        refine lv_ixor hx hb dX4_compute_32 ?_
        refine lv_topi (fun x_5 ex_5 => ?_)
        refine lv_istore_n (lv' := [(2, .int x_5), (0, .ref (ad q)), (1, .ref (ad o)), (3, .int (nI i))]) hx hb dX4_compute_33 rfl hl (by decide) rfl (fun ls hl => ?_)
        refine lv_iinc (v := nI (i + 1)) (lv' := [(3, .int (nI (i + 1))), (2, .int x_5), (0, .ref (ad q)), (1, .ref (ad o))]) hx hb dX4_compute_34 hl (k := 3) rfl (by rw [show Int32.ofInt 1 = nI 1 from rfl]; exact nI_add _ _) (by decide) rfl (fun ls hl => ?_)
        refine lv_goto (tgt := 4) hx hb dX4_compute_37 (by decide) ?_
        exact ih_4 (i + 1) _ _ _ (by omega) (by omega) hw (by have hl := lv_sub (l' := [(0, .ref (ad q)), (1, .ref (ad o)), (2, .int x_5), (3, .int (nI (i + 1)))]) hl [2, 3, 1, 0] rfl; simp only [ex_5] at hl; exact hl)
  refine lv_iconst (v := (-1)) hx hb dX4_compute_0 (by decide) ?_
  refine lv_istore_n (lv' := [(2, .int ((-1))), (0, .ref (ad q)), (1, .ref (ad o))]) hx hb dX4_compute_1 rfl hl (by decide) rfl (fun ls hl => ?_)
  refine lv_iconst (v := nI 0) hx hb dX4_compute_2 (by decide) ?_
  refine lv_istore_n (lv' := [(3, .int (nI 0)), (2, .int ((-1))), (0, .ref (ad q)), (1, .ref (ad o))]) hx hb dX4_compute_3 rfl hl (by decide) rfl (fun ls hl => ?_)
  exact P_4 ((sz + 1)) 0 _ _ _ (by omega) (by omega) hw (lv_sub hl [2, 3, 1, 0] rfl)

abbrev rmX0_plan : Room := { frames := 0, cells := 0, slots := 0, locals := 0 }

set_option maxHeartbeats 4000000 in
set_option maxRecDepth 100000 in
theorem k_X0_plan (l : Launch) (D : va_G) (ca : Nat → ClassId) (N : Nat) (ad : Nat → Nat) (B tR tK : Nat) (f : Nat → va_E) (dd : xD N ad B) (q : Nat) (oc : Nat) (lw : Nat) (sw : Int32) (al : Int32) (fd : Int32) (nd : Int32) (sp : Int32) (me : Int32) (dy : Int32) (sn : Int32) (l_q : q < N) (c_q : f q = .inr (1, [.ref (ad oc), .ref (ad lw), .int sw, .int al, .int fd, .int nd, .int sp, .int me]))   : xMv l yX0_plan wsX0_plan rmX0_plan [.ref (ad q), .int dy, .int sn] D ca N ad B tR tK f (fun u => u = va_up f q (.inr (1, [.ref (ad oc), .ref (ad lw), .int sw, .int al, .int fd, .int dy, .int sn, .int me]))) := by
  refine x_open (cc := cX0_plan) (maxL := 3) (ret := none) (by decide) rfl (Nat.le_of_ble_eq_true rfl) ?_
  intro p e s m below meth c ls hx hb hml hown hts hr hlocks hnm hB hK hE hw hl
  have hown : s.vm.findClass RX0 = some m.cls := hown
  have hl : lv_has ls 3 [(0, .ref (ad q)), (1, .int dy), (2, .int sn)] := hl
  have hin_1 : ∀ w ∈ u_ws RX0 TX0 8, w ∈ wsX0_plan := by decide +kernel
  have hf_26 := hts (.fieldLink RX0 26 "FixityRows$KeptFile" "nextDay" "I") (by decide +kernel)
  have hf_29 := hts (.fieldLink RX0 29 "FixityRows$KeptFile" "span" "I") (by decide +kernel)
  have b_q := c_q
  refine lv_aload_n hx hb dX0_plan_0 rfl (lv_at hl 0 rfl) ?_
  refine lv_iload_n hx hb dX0_plan_1 rfl (lv_at hl 1 rfl) ?_
  refine x_put (ci := 1) (C := RX0) (T := TX0) (n := 8) (ref := RX0) (fs' := [.ref (ad oc), .ref (ad lw), .int sw, .int al, .int fd, .int dy, .int sp, .int me]) hx hb hts hin_1 tyX0 tyX0_ok nmX0 hown hK dd hw q l_q c_q rfl 5 (by decide) hf_26 (fun _ h => h) rfl rfl rfl (Nat.le_of_ble_eq_true rfl) rfl dX0_plan_2 (fun H locs hw => ?_)
  obtain ⟨f_1, ef_1⟩ : ∃ z, z = va_up f q (.inr (1, [.ref (ad oc), .ref (ad lw), .int sw, .int al, .int fd, .int dy, .int sp, .int me])) := ⟨_, rfl⟩
  have hw : xw D vwCl N ad B s.heap f_1 H locs := by rw [ef_1]; exact hw
  have c_q : f_1 q = .inr (1, [.ref (ad oc), .ref (ad lw), .int sw, .int al, .int fd, .int dy, .int sp, .int me]) := va_up_of ef_1
  refine lv_aload_n hx hb dX0_plan_5 rfl (lv_at hl 0 rfl) ?_
  refine lv_iload_n hx hb dX0_plan_6 rfl (lv_at hl 2 rfl) ?_
  refine x_put (ci := 1) (C := RX0) (T := TX0) (n := 8) (ref := RX0) (fs' := [.ref (ad oc), .ref (ad lw), .int sw, .int al, .int fd, .int dy, .int sn, .int me]) hx hb hts hin_1 tyX0 tyX0_ok nmX0 hown hK dd hw q l_q c_q rfl 6 (by decide) hf_29 (fun _ h => h) rfl rfl rfl (Nat.le_of_ble_eq_true rfl) rfl dX0_plan_7 (fun H locs hw => ?_)
  obtain ⟨f_2, ef_2⟩ : ∃ z, z = va_up f_1 q (.inr (1, [.ref (ad oc), .ref (ad lw), .int sw, .int al, .int fd, .int dy, .int sn, .int me])) := ⟨_, rfl⟩
  have hw : xw D vwCl N ad B s.heap f_2 H locs := by rw [ef_2]; exact hw
  have c_q : f_2 q = .inr (1, [.ref (ad oc), .ref (ad lw), .int sw, .int al, .int fd, .int dy, .int sn, .int me]) := va_up_of ef_2
  exact x_vret hx hb hr hlocks hw (by simp only [ef_2, ef_1, up_aa]) dX0_plan_10

abbrev rmX0_isWaiting : Room := { frames := 0, cells := 0, slots := 0, locals := 0 }

set_option maxHeartbeats 4000000 in
set_option maxRecDepth 100000 in
theorem k_X0_isWaiting_yes (l : Launch) (D : va_G) (ca : Nat → ClassId) (N : Nat) (ad : Nat → Nat) (B tR tK : Nat) (f : Nat → va_E) (dd : xD N ad B) (q : Nat) (oc : Nat) (lw : Nat) (sw : Int32) (al : Int32) (fd : Int32) (nd : Int32) (sp : Int32) (me : Int32) (dy : Int32) (l_q : q < N) (c_q : f q = .inr (1, [.ref (ad oc), .ref (ad lw), .int sw, .int al, .int fd, .int nd, .int sp, .int me]))  (h1 : ¬ sp ≤ 0) (h2 : ¬ dy < nd) : xMi l yX0_isWaiting wsX0_isWaiting rmX0_isWaiting [.ref (ad q), .int dy] D ca N ad B tR tK f (fun r u => nI 1 = r ∧ f = u) := by
  refine x_open (cc := cX0_isWaiting) (maxL := 2) (ret := (some .boolean)) (by decide) rfl (Nat.le_of_ble_eq_true rfl) ?_
  intro p e s m below meth c ls hx hb hml hown hts hr hlocks hnm hB hK hE hw hl
  have hown : s.vm.findClass RX0 = some m.cls := hown
  have hl : lv_has ls 2 [(0, .ref (ad q)), (1, .int dy)] := hl
  have hin_1 : ∀ w ∈ u_ws RX0 TX0 8, w ∈ wsX0_isWaiting := by decide +kernel
  have hf_29 := hts (.fieldLink RX0 29 "FixityRows$KeptFile" "span" "I") (by decide +kernel)
  have hf_26 := hts (.fieldLink RX0 26 "FixityRows$KeptFile" "nextDay" "I") (by decide +kernel)
  have b_q := c_q
  refine lv_aload_n hx hb dX0_isWaiting_0 rfl (lv_at hl 0 rfl) ?_
  refine x_get (ci := 1) (C := RX0) (T := TX0) (n := 8) (ref := RX0) hx hb hts hin_1 hown hK hw q l_q c_q rfl 6 (by decide) hf_29 (fun _ h => h) rfl dX0_isWaiting_1 ?_
  refine lv_if_le (tgt := 19) hx hb dX0_isWaiting_4 (by decide) (fun c_4 => ?_) (fun c_4 => ?_)
  · exact absurd c_4 h1
  · refine lv_aload_n hx hb dX0_isWaiting_7 rfl (lv_at hl 0 rfl) ?_
    refine x_get (ci := 1) (C := RX0) (T := TX0) (n := 8) (ref := RX0) hx hb hts hin_1 hown hK hw q l_q c_q rfl 5 (by decide) hf_26 (fun _ h => h) rfl dX0_isWaiting_8 ?_
    refine lv_iload_n hx hb dX0_isWaiting_11 rfl (lv_at hl 1 rfl) ?_
    refine lv_icmp_gt (tgt := 19) hx hb dX0_isWaiting_12 (by decide) (fun c_12 => ?_) (fun c_12 => ?_)
    · exact absurd c_12 h2
    · refine lv_iconst (v := nI 1) hx hb dX0_isWaiting_15 (by decide) ?_
      refine lv_goto (tgt := 20) hx hb dX0_isWaiting_16 (by decide) ?_
      exact x_zret hx hb hr hlocks hw (by first | exact Or.inl rfl | exact Or.inr rfl) ⟨rfl, rfl⟩ dX0_isWaiting_20

set_option maxHeartbeats 4000000 in
set_option maxRecDepth 100000 in
theorem k_X0_isWaiting_no (l : Launch) (D : va_G) (ca : Nat → ClassId) (N : Nat) (ad : Nat → Nat) (B tR tK : Nat) (f : Nat → va_E) (dd : xD N ad B) (q : Nat) (oc : Nat) (lw : Nat) (sw : Int32) (al : Int32) (fd : Int32) (nd : Int32) (sp : Int32) (me : Int32) (dy : Int32) (l_q : q < N) (c_q : f q = .inr (1, [.ref (ad oc), .ref (ad lw), .int sw, .int al, .int fd, .int nd, .int sp, .int me]))  (h1 : sp ≤ 0 ∨ dy < nd) : xMi l yX0_isWaiting wsX0_isWaiting rmX0_isWaiting [.ref (ad q), .int dy] D ca N ad B tR tK f (fun r u => nI 0 = r ∧ f = u) := by
  refine x_open (cc := cX0_isWaiting) (maxL := 2) (ret := (some .boolean)) (by decide) rfl (Nat.le_of_ble_eq_true rfl) ?_
  intro p e s m below meth c ls hx hb hml hown hts hr hlocks hnm hB hK hE hw hl
  have hown : s.vm.findClass RX0 = some m.cls := hown
  have hl : lv_has ls 2 [(0, .ref (ad q)), (1, .int dy)] := hl
  have hin_1 : ∀ w ∈ u_ws RX0 TX0 8, w ∈ wsX0_isWaiting := by decide +kernel
  have hf_29 := hts (.fieldLink RX0 29 "FixityRows$KeptFile" "span" "I") (by decide +kernel)
  have hf_26 := hts (.fieldLink RX0 26 "FixityRows$KeptFile" "nextDay" "I") (by decide +kernel)
  have b_q := c_q
  refine lv_aload_n hx hb dX0_isWaiting_0 rfl (lv_at hl 0 rfl) ?_
  refine x_get (ci := 1) (C := RX0) (T := TX0) (n := 8) (ref := RX0) hx hb hts hin_1 hown hK hw q l_q c_q rfl 6 (by decide) hf_29 (fun _ h => h) rfl dX0_isWaiting_1 ?_
  refine lv_if_le (tgt := 19) hx hb dX0_isWaiting_4 (by decide) (fun c_4 => ?_) (fun c_4 => ?_)
  · refine lv_iconst (v := nI 0) hx hb dX0_isWaiting_19 (by decide) ?_
    exact x_zret hx hb hr hlocks hw (by first | exact Or.inl rfl | exact Or.inr rfl) ⟨rfl, rfl⟩ dX0_isWaiting_20
  · refine lv_aload_n hx hb dX0_isWaiting_7 rfl (lv_at hl 0 rfl) ?_
    refine x_get (ci := 1) (C := RX0) (T := TX0) (n := 8) (ref := RX0) hx hb hts hin_1 hown hK hw q l_q c_q rfl 5 (by decide) hf_26 (fun _ h => h) rfl dX0_isWaiting_8 ?_
    refine lv_iload_n hx hb dX0_isWaiting_11 rfl (lv_at hl 1 rfl) ?_
    refine lv_icmp_gt (tgt := 19) hx hb dX0_isWaiting_12 (by decide) (fun c_12 => ?_) (fun c_12 => ?_)
    · refine lv_iconst (v := nI 0) hx hb dX0_isWaiting_19 (by decide) ?_
      exact x_zret hx hb hr hlocks hw (by first | exact Or.inl rfl | exact Or.inr rfl) ⟨rfl, rfl⟩ dX0_isWaiting_20
    · exact absurd h1 (fun z => z.elim c_4 c_12)

abbrev rmX0_planBehind : Room := { frames := 1, cells := 0, slots := 0, locals := 21 }

set_option maxHeartbeats 4000000 in
set_option maxRecDepth 100000 in
theorem k_X0_planBehind (l : Launch) (D : va_G) (ca : Nat → ClassId) (N : Nat) (ad : Nat → Nat) (B tR tK : Nat) (f : Nat → va_E) (dd : xD N ad B) (q : Nat) (oc : Nat) (lw : Nat) (sw : Int32) (al : Int32) (fd : Int32) (nd : Int32) (sp : Int32) (me : Int32) (dy : Int32) (l_q : q < N) (c_q : f q = .inr (1, [.ref (ad oc), .ref (ad lw), .int sw, .int al, .int fd, .int nd, .int sp, .int me]))  (h1 : ¬ sp ≤ 0) (h2 : ¬ dy < nd) : xMv l yX0_planBehind wsX0_planBehind rmX0_planBehind [.ref (ad q), .int dy] D ca N ad B tR tK f (fun u => u = va_up f q (.inr (1, [.ref (ad oc), .ref (ad lw), .int sw, .int al, .int fd, .int (nd + ((dy - nd) / sp + nI 1) * sp), .int sp, .int me]))) := by
  refine x_open (cc := cX0_planBehind) (maxL := 2) (ret := none) (by decide) rfl (Nat.le_of_ble_eq_true rfl) ?_
  intro p e s m below meth c ls hx hb hml hown hts hr hlocks hnm hB hK hE hw hl
  have hown : s.vm.findClass RX0 = some m.cls := hown
  have hl : lv_has ls 2 [(0, .ref (ad q)), (1, .int dy)] := hl
  have hin_1 : ∀ w ∈ u_ws RX0 TX0 8, w ∈ wsX0_planBehind := by decide +kernel
  have hf_26 := hts (.fieldLink RX0 26 "FixityRows$KeptFile" "nextDay" "I") (by decide +kernel)
  have hf_29 := hts (.fieldLink RX0 29 "FixityRows$KeptFile" "span" "I") (by decide +kernel)
  have b_q := c_q
  refine lv_aload_n hx hb dX0_planBehind_0 rfl (lv_at hl 0 rfl) ?_
  refine lv_iload_n hx hb dX0_planBehind_1 rfl (lv_at hl 1 rfl) ?_
  refine x_Vi (q := q) (As := [.int dy]) (rest := []) ⟨hx, hb, hml, hown, hts⟩ (k_X0_isWaiting_yes l D ca N ad B tR tK f dd q oc lw sw al fd nd sp me dy l_q c_q  h1 h2) (cwV 1 hts gX0_planBehind_X0_isWaiting rfl rfl rfl (by decide +kernel) ⟨Nat.le_of_ble_eq_true rfl, Nat.le_of_ble_eq_true rfl⟩) hK hE hB hw l_q c_q rfl rfl rfl rfl hl.1 (Nat.le_of_ble_eq_true rfl) ⟨Nat.zero_le _, Nat.zero_le _⟩ dX0_planBehind_2 (fun r_2 f_1 H locs hp hw => ?_)
  obtain ⟨er, eu⟩ := hp
  rw [← er]
  rw [← eu] at hw
  refine lv_if_eq (tgt := 35) hx hb dX0_planBehind_5 (by decide) (fun h => absurd h (by decide)) (fun _ => ?_)
  refine lv_aload_n hx hb dX0_planBehind_8 rfl (lv_at hl 0 rfl) ?_
  refine lv_dup hx hb dX0_planBehind_9 rfl ?_
  refine x_get (ci := 1) (C := RX0) (T := TX0) (n := 8) (ref := RX0) hx hb hts hin_1 hown hK hw q l_q c_q rfl 5 (by decide) hf_26 (fun _ h => h) rfl dX0_planBehind_10 ?_
  refine lv_iload_n hx hb dX0_planBehind_13 rfl (lv_at hl 1 rfl) ?_
  refine lv_aload_n hx hb dX0_planBehind_14 rfl (lv_at hl 0 rfl) ?_
  refine x_get (ci := 1) (C := RX0) (T := TX0) (n := 8) (ref := RX0) hx hb hts hin_1 hown hK hw q l_q c_q rfl 5 (by decide) hf_26 (fun _ h => h) rfl dX0_planBehind_15 ?_
  refine lv_isub hx hb dX0_planBehind_18 ?_
  refine lv_aload_n hx hb dX0_planBehind_19 rfl (lv_at hl 0 rfl) ?_
  refine x_get (ci := 1) (C := RX0) (T := TX0) (n := 8) (ref := RX0) hx hb hts hin_1 hown hK hw q l_q c_q rfl 6 (by decide) hf_29 (fun _ h => h) rfl dX0_planBehind_20 ?_
  refine lv_idiv hx hb dX0_planBehind_23 (fun z => h1 (by rw [z]; exact Int32.le_refl 0)) ?_
  refine lv_iconst (v := nI 1) hx hb dX0_planBehind_24 (by decide) ?_
  refine lv_iadd hx hb dX0_planBehind_25 ?_
  refine lv_aload_n hx hb dX0_planBehind_26 rfl (lv_at hl 0 rfl) ?_
  refine x_get (ci := 1) (C := RX0) (T := TX0) (n := 8) (ref := RX0) hx hb hts hin_1 hown hK hw q l_q c_q rfl 6 (by decide) hf_29 (fun _ h => h) rfl dX0_planBehind_27 ?_
  refine lv_imul hx hb dX0_planBehind_30 ?_
  refine lv_iadd hx hb dX0_planBehind_31 ?_
  refine lv_topi (fun x_3 ex_3 => ?_)
  refine x_put (ci := 1) (C := RX0) (T := TX0) (n := 8) (ref := RX0) (fs' := [.ref (ad oc), .ref (ad lw), .int sw, .int al, .int fd, .int x_3, .int sp, .int me]) hx hb hts hin_1 tyX0 tyX0_ok nmX0 hown hK dd hw q l_q c_q rfl 5 (by decide) hf_26 (fun _ h => h) rfl rfl rfl (Nat.le_of_ble_eq_true rfl) rfl dX0_planBehind_32 (fun H locs hw => ?_)
  obtain ⟨f_4, ef_4⟩ : ∃ z, z = va_up f q (.inr (1, [.ref (ad oc), .ref (ad lw), .int sw, .int al, .int fd, .int x_3, .int sp, .int me])) := ⟨_, rfl⟩
  have hw : xw D vwCl N ad B s.heap f_4 H locs := by rw [ef_4]; exact hw
  have c_q : f_4 q = .inr (1, [.ref (ad oc), .ref (ad lw), .int sw, .int al, .int fd, .int x_3, .int sp, .int me]) := va_up_of ef_4
  exact x_vret hx hb hr hlocks hw (by simp only [ef_4, ex_3]) dX0_planBehind_35
end
section
abbrev rmX3_has : Room := { frames := 0, cells := 0, slots := 0, locals := 0 }

set_option maxHeartbeats 4000000 in
set_option maxRecDepth 100000 in
theorem k_X3_has_in (l : Launch) (D : va_G) (ca : Nat → ClassId) (N : Nat) (ad : Nat → Nat) (B tR tK : Nat) (f : Nat → va_E) (dd : xD N ad B) (rc : Nat) (i : Nat) (c_90 : f 90 = .inr (4, [.ref (ad 91), .ref (ad 94), .ref (ad 96), .ref (ad 97), .ref (ad 98), .ref (ad 99), .int (nI rc)]))  (hN : 302 ≤ N) (hi : i < rc) (hrc : rc ≤ 200) : xMi l yX3_has wsX3_has rmX3_has [.ref (ad 90), .int (nI i)] D ca N ad B tR tK f (fun r u => nI 1 = r ∧ f = u) := by
  refine x_open (cc := cX3_has) (maxL := 2) (ret := (some .boolean)) (by decide) rfl (Nat.le_of_ble_eq_true rfl) ?_
  intro p e s m below meth c ls hx hb hml hown hts hr hlocks hnm hB hK hE hw hl
  have hown : s.vm.findClass RX3 = some m.cls := hown
  have hl : lv_has ls 2 [(0, .ref (ad 90)), (1, .int (nI i))] := hl
  have hin_4 : ∀ w ∈ u_ws RX3 TX3 7, w ∈ wsX3_has := by decide +kernel
  have hf_40 := hts (.fieldLink RX3 40 "FixityRows$RowChain" "count" "I") (by decide +kernel)
  have b_90 := c_90
  refine lv_iload_n hx hb dX3_has_0 rfl (lv_at hl 1 rfl) ?_
  refine n_iflt (tgt := 16) hx hb dX3_has_1 (by decide) (by omega) ?_
  refine lv_iload_n hx hb dX3_has_4 rfl (lv_at hl 1 rfl) ?_
  refine lv_aload_n hx hb dX3_has_5 rfl (lv_at hl 0 rfl) ?_
  refine x_get (ci := 4) (C := RX3) (T := TX3) (n := 7) (ref := RX3) hx hb hts hin_4 hown hK hw 90 (by omega) c_90 rfl 6 (by decide) hf_40 (fun _ h => h) rfl dX3_has_6 ?_
  refine n_icge (tgt := 16) hx hb dX3_has_9 (by decide) (by omega) (by omega) (fun c_9 => ?_) (fun c_9 => ?_)
  · omega
  · refine lv_iconst (v := nI 1) hx hb dX3_has_12 (by decide) ?_
    refine lv_goto (tgt := 17) hx hb dX3_has_13 (by decide) ?_
    exact x_zret hx hb hr hlocks hw (by first | exact Or.inl rfl | exact Or.inr rfl) ⟨rfl, rfl⟩ dX3_has_17

set_option maxHeartbeats 4000000 in
set_option maxRecDepth 100000 in
theorem k_X3_has_out (l : Launch) (D : va_G) (ca : Nat → ClassId) (N : Nat) (ad : Nat → Nat) (B tR tK : Nat) (f : Nat → va_E) (dd : xD N ad B) (rc : Nat) (x : Int32) (c_90 : f 90 = .inr (4, [.ref (ad 91), .ref (ad 94), .ref (ad 96), .ref (ad 97), .ref (ad 98), .ref (ad 99), .int (nI rc)]))  (hN : 302 ≤ N) (ho : x < 0 ∨ nI rc ≤ x) : xMi l yX3_has wsX3_has rmX3_has [.ref (ad 90), .int x] D ca N ad B tR tK f (fun r u => nI 0 = r ∧ f = u) := by
  refine x_open (cc := cX3_has) (maxL := 2) (ret := (some .boolean)) (by decide) rfl (Nat.le_of_ble_eq_true rfl) ?_
  intro p e s m below meth c ls hx hb hml hown hts hr hlocks hnm hB hK hE hw hl
  have hown : s.vm.findClass RX3 = some m.cls := hown
  have hl : lv_has ls 2 [(0, .ref (ad 90)), (1, .int x)] := hl
  have hin_4 : ∀ w ∈ u_ws RX3 TX3 7, w ∈ wsX3_has := by decide +kernel
  have hf_40 := hts (.fieldLink RX3 40 "FixityRows$RowChain" "count" "I") (by decide +kernel)
  have b_90 := c_90
  refine lv_iload_n hx hb dX3_has_0 rfl (lv_at hl 1 rfl) ?_
  refine lv_if_lt (tgt := 16) hx hb dX3_has_1 (by decide) (fun c_1 => ?_) (fun c_1 => ?_)
  · refine lv_iconst (v := nI 0) hx hb dX3_has_16 (by decide) ?_
    exact x_zret hx hb hr hlocks hw (by first | exact Or.inl rfl | exact Or.inr rfl) ⟨rfl, rfl⟩ dX3_has_17
  · refine lv_iload_n hx hb dX3_has_4 rfl (lv_at hl 1 rfl) ?_
    refine lv_aload_n hx hb dX3_has_5 rfl (lv_at hl 0 rfl) ?_
    refine x_get (ci := 4) (C := RX3) (T := TX3) (n := 7) (ref := RX3) hx hb hts hin_4 hown hK hw 90 (by omega) c_90 rfl 6 (by decide) hf_40 (fun _ h => h) rfl dX3_has_6 ?_
    refine lv_icmp_ge (tgt := 16) hx hb dX3_has_9 (by decide) (fun c_9 => ?_) (fun c_9 => ?_)
    · refine lv_iconst (v := nI 0) hx hb dX3_has_16 (by decide) ?_
      exact x_zret hx hb hr hlocks hw (by first | exact Or.inl rfl | exact Or.inr rfl) ⟨rfl, rfl⟩ dX3_has_17
    · exact absurd ho (fun z => z.elim c_1 c_9)

abbrev rmX3_kindOf : Room := { frames := 1, cells := 0, slots := 0, locals := 21 }

set_option maxHeartbeats 4000000 in
set_option maxRecDepth 100000 in
theorem k_X3_kindOf_in (l : Launch) (D : va_G) (ca : Nat → ClassId) (N : Nat) (ad : Nat → Nat) (B tR tK : Nat) (f : Nat → va_E) (dd : xD N ad B) (rc : Nat) (i : Nat) (kn : Nat → Int32) (c_90 : f 90 = .inr (4, [.ref (ad 91), .ref (ad 94), .ref (ad 96), .ref (ad 97), .ref (ad 98), .ref (ad 99), .int (nI rc)])) (c_96 : f 96 = ai (ca 0) 200 kn)  (hN : 302 ≤ N) (hi : i < rc) (hrc : rc ≤ 200) : xMi l yX3_kindOf wsX3_kindOf rmX3_kindOf [.ref (ad 90), .int (nI i)] D ca N ad B tR tK f (fun r u => kn i = r ∧ f = u) := by
  refine x_open (cc := cX3_kindOf) (maxL := 2) (ret := (some .int)) (by decide) rfl (Nat.le_of_ble_eq_true rfl) ?_
  intro p e s m below meth c ls hx hb hml hown hts hr hlocks hnm hB hK hE hw hl
  have hown : s.vm.findClass RX3 = some m.cls := hown
  have hl : lv_has ls 2 [(0, .ref (ad 90)), (1, .int (nI i))] := hl
  have hin_4 : ∀ w ∈ u_ws RX3 TX3 7, w ∈ wsX3_kindOf := by decide +kernel
  have hf_25 := hts (.fieldLink RX3 25 "FixityRows$RowChain" "kinds" "[I") (by decide +kernel)
  have b_90 := c_90
  have b_96 := c_96
  refine lv_aload_n hx hb dX3_kindOf_0 rfl (lv_at hl 0 rfl) ?_
  refine lv_iload_n hx hb dX3_kindOf_1 rfl (lv_at hl 1 rfl) ?_
  refine x_Vi (q := 90) (As := [.int (nI i)]) (rest := []) ⟨hx, hb, hml, hown, hts⟩ (k_X3_has_in l D ca N ad B tR tK f dd rc i c_90  (by omega) (by omega) (by omega)) (cwV 1 hts gX3_kindOf_X3_has rfl rfl rfl (by decide +kernel) ⟨Nat.le_of_ble_eq_true rfl, Nat.le_of_ble_eq_true rfl⟩) hK hE hB hw (by omega) c_90 rfl rfl rfl rfl hl.1 (Nat.le_of_ble_eq_true rfl) ⟨Nat.zero_le _, Nat.zero_le _⟩ dX3_kindOf_2 (fun r_2 f_1 H locs hp hw => ?_)
  obtain ⟨er, eu⟩ := hp
  rw [← er]
  rw [← eu] at hw
  refine lv_if_eq (tgt := 17) hx hb dX3_kindOf_5 (by decide) (fun h => absurd h (by decide)) (fun _ => ?_)
  refine lv_aload_n hx hb dX3_kindOf_8 rfl (lv_at hl 0 rfl) ?_
  refine x_get (ci := 4) (C := RX3) (T := TX3) (n := 7) (ref := RX3) hx hb hts hin_4 hown hK hw 90 (by omega) c_90 rfl 2 (by decide) hf_25 (fun _ h => h) rfl dX3_kindOf_9 ?_
  refine lv_iload_n hx hb dX3_kindOf_12 rfl (lv_at hl 1 rfl) ?_
  refine x_iald (j := i) hx hb hK hw 96 0 (by omega) c_96 rfl rfl (by omega) (by decide) dX3_kindOf_13 ?_
  refine lv_goto (tgt := 18) hx hb dX3_kindOf_14 (by decide) ?_
  exact x_iret hx hb hr hlocks hw ⟨rfl, rfl⟩ dX3_kindOf_18

set_option maxHeartbeats 4000000 in
set_option maxRecDepth 100000 in
theorem k_X3_kindOf_out (l : Launch) (D : va_G) (ca : Nat → ClassId) (N : Nat) (ad : Nat → Nat) (B tR tK : Nat) (f : Nat → va_E) (dd : xD N ad B) (rc : Nat) (x : Int32) (c_90 : f 90 = .inr (4, [.ref (ad 91), .ref (ad 94), .ref (ad 96), .ref (ad 97), .ref (ad 98), .ref (ad 99), .int (nI rc)]))  (hN : 302 ≤ N) (ho : x < 0 ∨ nI rc ≤ x) : xMi l yX3_kindOf wsX3_kindOf rmX3_kindOf [.ref (ad 90), .int x] D ca N ad B tR tK f (fun r u => (-1) = r ∧ f = u) := by
  refine x_open (cc := cX3_kindOf) (maxL := 2) (ret := (some .int)) (by decide) rfl (Nat.le_of_ble_eq_true rfl) ?_
  intro p e s m below meth c ls hx hb hml hown hts hr hlocks hnm hB hK hE hw hl
  have hown : s.vm.findClass RX3 = some m.cls := hown
  have hl : lv_has ls 2 [(0, .ref (ad 90)), (1, .int x)] := hl
  have b_90 := c_90
  refine lv_aload_n hx hb dX3_kindOf_0 rfl (lv_at hl 0 rfl) ?_
  refine lv_iload_n hx hb dX3_kindOf_1 rfl (lv_at hl 1 rfl) ?_
  refine x_Vi (q := 90) (As := [.int x]) (rest := []) ⟨hx, hb, hml, hown, hts⟩ (k_X3_has_out l D ca N ad B tR tK f dd rc x c_90  (by omega) ho) (cwV 1 hts gX3_kindOf_X3_has rfl rfl rfl (by decide +kernel) ⟨Nat.le_of_ble_eq_true rfl, Nat.le_of_ble_eq_true rfl⟩) hK hE hB hw (by omega) c_90 rfl rfl rfl rfl hl.1 (Nat.le_of_ble_eq_true rfl) ⟨Nat.zero_le _, Nat.zero_le _⟩ dX3_kindOf_2 (fun r_2 f_1 H locs hp hw => ?_)
  obtain ⟨er, eu⟩ := hp
  rw [← er]
  rw [← eu] at hw
  refine lv_if_eq (tgt := 17) hx hb dX3_kindOf_5 (by decide) (fun _ => ?_) (fun h => False.elim (h (by decide)))
  refine lv_iconst (v := (-1)) hx hb dX3_kindOf_17 (by decide) ?_
  exact x_iret hx hb hr hlocks hw ⟨rfl, rfl⟩ dX3_kindOf_18

abbrev rmX3_fileOf : Room := { frames := 1, cells := 0, slots := 0, locals := 21 }

set_option maxHeartbeats 4000000 in
set_option maxRecDepth 100000 in
theorem k_X3_fileOf_in (l : Launch) (D : va_G) (ca : Nat → ClassId) (N : Nat) (ad : Nat → Nat) (B tR tK : Nat) (f : Nat → va_E) (dd : xD N ad B) (rc : Nat) (i : Nat) (fn : Nat → Int32) (c_90 : f 90 = .inr (4, [.ref (ad 91), .ref (ad 94), .ref (ad 96), .ref (ad 97), .ref (ad 98), .ref (ad 99), .int (nI rc)])) (c_97 : f 97 = ai (ca 0) 200 fn)  (hN : 302 ≤ N) (hi : i < rc) (hrc : rc ≤ 200) : xMi l yX3_fileOf wsX3_fileOf rmX3_fileOf [.ref (ad 90), .int (nI i)] D ca N ad B tR tK f (fun r u => fn i = r ∧ f = u) := by
  refine x_open (cc := cX3_fileOf) (maxL := 2) (ret := (some .int)) (by decide) rfl (Nat.le_of_ble_eq_true rfl) ?_
  intro p e s m below meth c ls hx hb hml hown hts hr hlocks hnm hB hK hE hw hl
  have hown : s.vm.findClass RX3 = some m.cls := hown
  have hl : lv_has ls 2 [(0, .ref (ad 90)), (1, .int (nI i))] := hl
  have hin_4 : ∀ w ∈ u_ws RX3 TX3 7, w ∈ wsX3_fileOf := by decide +kernel
  have hf_29 := hts (.fieldLink RX3 29 "FixityRows$RowChain" "fileNumbers" "[I") (by decide +kernel)
  have b_90 := c_90
  have b_97 := c_97
  refine lv_aload_n hx hb dX3_fileOf_0 rfl (lv_at hl 0 rfl) ?_
  refine lv_iload_n hx hb dX3_fileOf_1 rfl (lv_at hl 1 rfl) ?_
  refine x_Vi (q := 90) (As := [.int (nI i)]) (rest := []) ⟨hx, hb, hml, hown, hts⟩ (k_X3_has_in l D ca N ad B tR tK f dd rc i c_90  (by omega) (by omega) (by omega)) (cwV 1 hts gX3_fileOf_X3_has rfl rfl rfl (by decide +kernel) ⟨Nat.le_of_ble_eq_true rfl, Nat.le_of_ble_eq_true rfl⟩) hK hE hB hw (by omega) c_90 rfl rfl rfl rfl hl.1 (Nat.le_of_ble_eq_true rfl) ⟨Nat.zero_le _, Nat.zero_le _⟩ dX3_fileOf_2 (fun r_2 f_1 H locs hp hw => ?_)
  obtain ⟨er, eu⟩ := hp
  rw [← er]
  rw [← eu] at hw
  refine lv_if_eq (tgt := 17) hx hb dX3_fileOf_5 (by decide) (fun h => absurd h (by decide)) (fun _ => ?_)
  refine lv_aload_n hx hb dX3_fileOf_8 rfl (lv_at hl 0 rfl) ?_
  refine x_get (ci := 4) (C := RX3) (T := TX3) (n := 7) (ref := RX3) hx hb hts hin_4 hown hK hw 90 (by omega) c_90 rfl 3 (by decide) hf_29 (fun _ h => h) rfl dX3_fileOf_9 ?_
  refine lv_iload_n hx hb dX3_fileOf_12 rfl (lv_at hl 1 rfl) ?_
  refine x_iald (j := i) hx hb hK hw 97 0 (by omega) c_97 rfl rfl (by omega) (by decide) dX3_fileOf_13 ?_
  refine lv_goto (tgt := 18) hx hb dX3_fileOf_14 (by decide) ?_
  exact x_iret hx hb hr hlocks hw ⟨rfl, rfl⟩ dX3_fileOf_18

set_option maxHeartbeats 4000000 in
set_option maxRecDepth 100000 in
theorem k_X3_fileOf_out (l : Launch) (D : va_G) (ca : Nat → ClassId) (N : Nat) (ad : Nat → Nat) (B tR tK : Nat) (f : Nat → va_E) (dd : xD N ad B) (rc : Nat) (x : Int32) (c_90 : f 90 = .inr (4, [.ref (ad 91), .ref (ad 94), .ref (ad 96), .ref (ad 97), .ref (ad 98), .ref (ad 99), .int (nI rc)]))  (hN : 302 ≤ N) (ho : x < 0 ∨ nI rc ≤ x) : xMi l yX3_fileOf wsX3_fileOf rmX3_fileOf [.ref (ad 90), .int x] D ca N ad B tR tK f (fun r u => (-1) = r ∧ f = u) := by
  refine x_open (cc := cX3_fileOf) (maxL := 2) (ret := (some .int)) (by decide) rfl (Nat.le_of_ble_eq_true rfl) ?_
  intro p e s m below meth c ls hx hb hml hown hts hr hlocks hnm hB hK hE hw hl
  have hown : s.vm.findClass RX3 = some m.cls := hown
  have hl : lv_has ls 2 [(0, .ref (ad 90)), (1, .int x)] := hl
  have b_90 := c_90
  refine lv_aload_n hx hb dX3_fileOf_0 rfl (lv_at hl 0 rfl) ?_
  refine lv_iload_n hx hb dX3_fileOf_1 rfl (lv_at hl 1 rfl) ?_
  refine x_Vi (q := 90) (As := [.int x]) (rest := []) ⟨hx, hb, hml, hown, hts⟩ (k_X3_has_out l D ca N ad B tR tK f dd rc x c_90  (by omega) ho) (cwV 1 hts gX3_fileOf_X3_has rfl rfl rfl (by decide +kernel) ⟨Nat.le_of_ble_eq_true rfl, Nat.le_of_ble_eq_true rfl⟩) hK hE hB hw (by omega) c_90 rfl rfl rfl rfl hl.1 (Nat.le_of_ble_eq_true rfl) ⟨Nat.zero_le _, Nat.zero_le _⟩ dX3_fileOf_2 (fun r_2 f_1 H locs hp hw => ?_)
  obtain ⟨er, eu⟩ := hp
  rw [← er]
  rw [← eu] at hw
  refine lv_if_eq (tgt := 17) hx hb dX3_fileOf_5 (by decide) (fun _ => ?_) (fun h => False.elim (h (by decide)))
  refine lv_iconst (v := (-1)) hx hb dX3_fileOf_17 (by decide) ?_
  exact x_iret hx hb hr hlocks hw ⟨rfl, rfl⟩ dX3_fileOf_18

abbrev rmX3_dayOf : Room := { frames := 1, cells := 0, slots := 0, locals := 21 }

set_option maxHeartbeats 4000000 in
set_option maxRecDepth 100000 in
theorem k_X3_dayOf_in (l : Launch) (D : va_G) (ca : Nat → ClassId) (N : Nat) (ad : Nat → Nat) (B tR tK : Nat) (f : Nat → va_E) (dd : xD N ad B) (rc : Nat) (i : Nat) (dn : Nat → Int32) (c_90 : f 90 = .inr (4, [.ref (ad 91), .ref (ad 94), .ref (ad 96), .ref (ad 97), .ref (ad 98), .ref (ad 99), .int (nI rc)])) (c_98 : f 98 = ai (ca 0) 200 dn)  (hN : 302 ≤ N) (hi : i < rc) (hrc : rc ≤ 200) : xMi l yX3_dayOf wsX3_dayOf rmX3_dayOf [.ref (ad 90), .int (nI i)] D ca N ad B tR tK f (fun r u => dn i = r ∧ f = u) := by
  refine x_open (cc := cX3_dayOf) (maxL := 2) (ret := (some .int)) (by decide) rfl (Nat.le_of_ble_eq_true rfl) ?_
  intro p e s m below meth c ls hx hb hml hown hts hr hlocks hnm hB hK hE hw hl
  have hown : s.vm.findClass RX3 = some m.cls := hown
  have hl : lv_has ls 2 [(0, .ref (ad 90)), (1, .int (nI i))] := hl
  have hin_4 : ∀ w ∈ u_ws RX3 TX3 7, w ∈ wsX3_dayOf := by decide +kernel
  have hf_32 := hts (.fieldLink RX3 32 "FixityRows$RowChain" "days" "[I") (by decide +kernel)
  have b_90 := c_90
  have b_98 := c_98
  refine lv_aload_n hx hb dX3_dayOf_0 rfl (lv_at hl 0 rfl) ?_
  refine lv_iload_n hx hb dX3_dayOf_1 rfl (lv_at hl 1 rfl) ?_
  refine x_Vi (q := 90) (As := [.int (nI i)]) (rest := []) ⟨hx, hb, hml, hown, hts⟩ (k_X3_has_in l D ca N ad B tR tK f dd rc i c_90  (by omega) (by omega) (by omega)) (cwV 1 hts gX3_dayOf_X3_has rfl rfl rfl (by decide +kernel) ⟨Nat.le_of_ble_eq_true rfl, Nat.le_of_ble_eq_true rfl⟩) hK hE hB hw (by omega) c_90 rfl rfl rfl rfl hl.1 (Nat.le_of_ble_eq_true rfl) ⟨Nat.zero_le _, Nat.zero_le _⟩ dX3_dayOf_2 (fun r_2 f_1 H locs hp hw => ?_)
  obtain ⟨er, eu⟩ := hp
  rw [← er]
  rw [← eu] at hw
  refine lv_if_eq (tgt := 17) hx hb dX3_dayOf_5 (by decide) (fun h => absurd h (by decide)) (fun _ => ?_)
  refine lv_aload_n hx hb dX3_dayOf_8 rfl (lv_at hl 0 rfl) ?_
  refine x_get (ci := 4) (C := RX3) (T := TX3) (n := 7) (ref := RX3) hx hb hts hin_4 hown hK hw 90 (by omega) c_90 rfl 4 (by decide) hf_32 (fun _ h => h) rfl dX3_dayOf_9 ?_
  refine lv_iload_n hx hb dX3_dayOf_12 rfl (lv_at hl 1 rfl) ?_
  refine x_iald (j := i) hx hb hK hw 98 0 (by omega) c_98 rfl rfl (by omega) (by decide) dX3_dayOf_13 ?_
  refine lv_goto (tgt := 18) hx hb dX3_dayOf_14 (by decide) ?_
  exact x_iret hx hb hr hlocks hw ⟨rfl, rfl⟩ dX3_dayOf_18

set_option maxHeartbeats 4000000 in
set_option maxRecDepth 100000 in
theorem k_X3_dayOf_out (l : Launch) (D : va_G) (ca : Nat → ClassId) (N : Nat) (ad : Nat → Nat) (B tR tK : Nat) (f : Nat → va_E) (dd : xD N ad B) (rc : Nat) (x : Int32) (c_90 : f 90 = .inr (4, [.ref (ad 91), .ref (ad 94), .ref (ad 96), .ref (ad 97), .ref (ad 98), .ref (ad 99), .int (nI rc)]))  (hN : 302 ≤ N) (ho : x < 0 ∨ nI rc ≤ x) : xMi l yX3_dayOf wsX3_dayOf rmX3_dayOf [.ref (ad 90), .int x] D ca N ad B tR tK f (fun r u => (-1) = r ∧ f = u) := by
  refine x_open (cc := cX3_dayOf) (maxL := 2) (ret := (some .int)) (by decide) rfl (Nat.le_of_ble_eq_true rfl) ?_
  intro p e s m below meth c ls hx hb hml hown hts hr hlocks hnm hB hK hE hw hl
  have hown : s.vm.findClass RX3 = some m.cls := hown
  have hl : lv_has ls 2 [(0, .ref (ad 90)), (1, .int x)] := hl
  have b_90 := c_90
  refine lv_aload_n hx hb dX3_dayOf_0 rfl (lv_at hl 0 rfl) ?_
  refine lv_iload_n hx hb dX3_dayOf_1 rfl (lv_at hl 1 rfl) ?_
  refine x_Vi (q := 90) (As := [.int x]) (rest := []) ⟨hx, hb, hml, hown, hts⟩ (k_X3_has_out l D ca N ad B tR tK f dd rc x c_90  (by omega) ho) (cwV 1 hts gX3_dayOf_X3_has rfl rfl rfl (by decide +kernel) ⟨Nat.le_of_ble_eq_true rfl, Nat.le_of_ble_eq_true rfl⟩) hK hE hB hw (by omega) c_90 rfl rfl rfl rfl hl.1 (Nat.le_of_ble_eq_true rfl) ⟨Nat.zero_le _, Nat.zero_le _⟩ dX3_dayOf_2 (fun r_2 f_1 H locs hp hw => ?_)
  obtain ⟨er, eu⟩ := hp
  rw [← er]
  rw [← eu] at hw
  refine lv_if_eq (tgt := 17) hx hb dX3_dayOf_5 (by decide) (fun _ => ?_) (fun h => False.elim (h (by decide)))
  refine lv_iconst (v := (-1)) hx hb dX3_dayOf_17 (by decide) ?_
  exact x_iret hx hb hr hlocks hw ⟨rfl, rfl⟩ dX3_dayOf_18

abbrev rmX3_firstWordOf : Room := { frames := 1, cells := 0, slots := 0, locals := 21 }

set_option maxHeartbeats 4000000 in
set_option maxRecDepth 100000 in
theorem k_X3_firstWordOf_in (l : Launch) (D : va_G) (ca : Nat → ClassId) (N : Nat) (ad : Nat → Nat) (B tR tK : Nat) (f : Nat → va_E) (dd : xD N ad B) (rc : Nat) (i : Nat) (M : Nat → Nat → Int32) (c_90 : f 90 = .inr (4, [.ref (ad 91), .ref (ad 94), .ref (ad 96), .ref (ad 97), .ref (ad 98), .ref (ad 99), .int (nI rc)])) (c_99 : f 99 = aq (ca 4) 200 (fun i => some (ad (100 + i)))) (F_M : ∀ i, i < 200 → f (100 + i) = ai (ca 0) 8 (M i)) (hN : 302 ≤ N) (hi : i < rc) (hrc : rc ≤ 200) : xMi l yX3_firstWordOf wsX3_firstWordOf rmX3_firstWordOf [.ref (ad 90), .int (nI i)] D ca N ad B tR tK f (fun r u => M i 0 = r ∧ f = u) := by
  refine x_open (cc := cX3_firstWordOf) (maxL := 2) (ret := (some .int)) (by decide) rfl (Nat.le_of_ble_eq_true rfl) ?_
  intro p e s m below meth c ls hx hb hml hown hts hr hlocks hnm hB hK hE hw hl
  have hown : s.vm.findClass RX3 = some m.cls := hown
  have hl : lv_has ls 2 [(0, .ref (ad 90)), (1, .int (nI i))] := hl
  have hin_4 : ∀ w ∈ u_ws RX3 TX3 7, w ∈ wsX3_firstWordOf := by decide +kernel
  have hf_37 := hts (.fieldLink RX3 37 "FixityRows$RowChain" "digests" "[[I") (by decide +kernel)
  have b_90 := c_90
  have b_99 := c_99
  refine lv_aload_n hx hb dX3_firstWordOf_0 rfl (lv_at hl 0 rfl) ?_
  refine lv_iload_n hx hb dX3_firstWordOf_1 rfl (lv_at hl 1 rfl) ?_
  refine x_Vi (q := 90) (As := [.int (nI i)]) (rest := []) ⟨hx, hb, hml, hown, hts⟩ (k_X3_has_in l D ca N ad B tR tK f dd rc i c_90  (by omega) (by omega) (by omega)) (cwV 1 hts gX3_firstWordOf_X3_has rfl rfl rfl (by decide +kernel) ⟨Nat.le_of_ble_eq_true rfl, Nat.le_of_ble_eq_true rfl⟩) hK hE hB hw (by omega) c_90 rfl rfl rfl rfl hl.1 (Nat.le_of_ble_eq_true rfl) ⟨Nat.zero_le _, Nat.zero_le _⟩ dX3_firstWordOf_2 (fun r_2 f_1 H locs hp hw => ?_)
  obtain ⟨er, eu⟩ := hp
  rw [← er]
  rw [← eu] at hw
  refine lv_if_eq (tgt := 19) hx hb dX3_firstWordOf_5 (by decide) (fun h => absurd h (by decide)) (fun _ => ?_)
  refine lv_aload_n hx hb dX3_firstWordOf_8 rfl (lv_at hl 0 rfl) ?_
  refine x_get (ci := 4) (C := RX3) (T := TX3) (n := 7) (ref := RX3) hx hb hts hin_4 hown hK hw 90 (by omega) c_90 rfl 5 (by decide) hf_37 (fun _ h => h) rfl dX3_firstWordOf_9 ?_
  refine lv_iload_n hx hb dX3_firstWordOf_12 rfl (lv_at hl 1 rfl) ?_
  refine x_aaldA (j := i) (a := ad (100 + i)) hx hb hK hw 99 4 (by omega) c_99 rfl rfl (by omega) (by decide) rfl dX3_firstWordOf_13 ?_
  refine lv_iconst (v := nI 0) hx hb dX3_firstWordOf_14 (by decide) ?_
  have c_100_i : f (100 + i) = ai (ca 0) 8 (M i) := (F_M i (by omega))
  refine x_iald (j := 0) hx hb hK hw (100 + i) 0 (by omega) c_100_i rfl rfl (by omega) (by decide) dX3_firstWordOf_15 ?_
  refine lv_goto (tgt := 20) hx hb dX3_firstWordOf_16 (by decide) ?_
  exact x_iret hx hb hr hlocks hw ⟨rfl, rfl⟩ dX3_firstWordOf_20

set_option maxHeartbeats 4000000 in
set_option maxRecDepth 100000 in
theorem k_X3_firstWordOf_out (l : Launch) (D : va_G) (ca : Nat → ClassId) (N : Nat) (ad : Nat → Nat) (B tR tK : Nat) (f : Nat → va_E) (dd : xD N ad B) (rc : Nat) (x : Int32) (c_90 : f 90 = .inr (4, [.ref (ad 91), .ref (ad 94), .ref (ad 96), .ref (ad 97), .ref (ad 98), .ref (ad 99), .int (nI rc)]))  (hN : 302 ≤ N) (ho : x < 0 ∨ nI rc ≤ x) : xMi l yX3_firstWordOf wsX3_firstWordOf rmX3_firstWordOf [.ref (ad 90), .int x] D ca N ad B tR tK f (fun r u => (-1) = r ∧ f = u) := by
  refine x_open (cc := cX3_firstWordOf) (maxL := 2) (ret := (some .int)) (by decide) rfl (Nat.le_of_ble_eq_true rfl) ?_
  intro p e s m below meth c ls hx hb hml hown hts hr hlocks hnm hB hK hE hw hl
  have hown : s.vm.findClass RX3 = some m.cls := hown
  have hl : lv_has ls 2 [(0, .ref (ad 90)), (1, .int x)] := hl
  have b_90 := c_90
  refine lv_aload_n hx hb dX3_firstWordOf_0 rfl (lv_at hl 0 rfl) ?_
  refine lv_iload_n hx hb dX3_firstWordOf_1 rfl (lv_at hl 1 rfl) ?_
  refine x_Vi (q := 90) (As := [.int x]) (rest := []) ⟨hx, hb, hml, hown, hts⟩ (k_X3_has_out l D ca N ad B tR tK f dd rc x c_90  (by omega) ho) (cwV 1 hts gX3_firstWordOf_X3_has rfl rfl rfl (by decide +kernel) ⟨Nat.le_of_ble_eq_true rfl, Nat.le_of_ble_eq_true rfl⟩) hK hE hB hw (by omega) c_90 rfl rfl rfl rfl hl.1 (Nat.le_of_ble_eq_true rfl) ⟨Nat.zero_le _, Nat.zero_le _⟩ dX3_firstWordOf_2 (fun r_2 f_1 H locs hp hw => ?_)
  obtain ⟨er, eu⟩ := hp
  rw [← er]
  rw [← eu] at hw
  refine lv_if_eq (tgt := 19) hx hb dX3_firstWordOf_5 (by decide) (fun _ => ?_) (fun h => False.elim (h (by decide)))
  refine lv_iconst (v := (-1)) hx hb dX3_firstWordOf_19 (by decide) ?_
  exact x_iret hx hb hr hlocks hw ⟨rfl, rfl⟩ dX3_firstWordOf_20

abbrev rmX3_changeDay : Room := { frames := 1, cells := 0, slots := 0, locals := 21 }

set_option maxHeartbeats 4000000 in
set_option maxRecDepth 100000 in
theorem k_X3_changeDay_in (l : Launch) (D : va_G) (ca : Nat → ClassId) (N : Nat) (ad : Nat → Nat) (B tR tK : Nat) (f : Nat → va_E) (dd : xD N ad B) (rc : Nat) (i : Nat) (x : Int32) (dn : Nat → Int32) (c_90 : f 90 = .inr (4, [.ref (ad 91), .ref (ad 94), .ref (ad 96), .ref (ad 97), .ref (ad 98), .ref (ad 99), .int (nI rc)])) (c_98 : f 98 = ai (ca 0) 200 dn)  (hN : 302 ≤ N) (hi : i < rc) (hrc : rc ≤ 200) : xMv l yX3_changeDay wsX3_changeDay rmX3_changeDay [.ref (ad 90), .int (nI i), .int x] D ca N ad B tR tK f (fun u => u = va_up f 98 (ai (ca 0) 200 (upd dn i (dn i ^^^ x)))) := by
  refine x_open (cc := cX3_changeDay) (maxL := 3) (ret := none) (by decide) rfl (Nat.le_of_ble_eq_true rfl) ?_
  intro p e s m below meth c ls hx hb hml hown hts hr hlocks hnm hB hK hE hw hl
  have hown : s.vm.findClass RX3 = some m.cls := hown
  have hl : lv_has ls 3 [(0, .ref (ad 90)), (1, .int (nI i)), (2, .int x)] := hl
  have hin_4 : ∀ w ∈ u_ws RX3 TX3 7, w ∈ wsX3_changeDay := by decide +kernel
  have hf_32 := hts (.fieldLink RX3 32 "FixityRows$RowChain" "days" "[I") (by decide +kernel)
  have b_90 := c_90
  have b_98 := c_98
  refine lv_aload_n hx hb dX3_changeDay_0 rfl (lv_at hl 0 rfl) ?_
  refine lv_iload_n hx hb dX3_changeDay_1 rfl (lv_at hl 1 rfl) ?_
  refine x_Vi (q := 90) (As := [.int (nI i)]) (rest := []) ⟨hx, hb, hml, hown, hts⟩ (k_X3_has_in l D ca N ad B tR tK f dd rc i c_90  (by omega) (by omega) (by omega)) (cwV 1 hts gX3_changeDay_X3_has rfl rfl rfl (by decide +kernel) ⟨Nat.le_of_ble_eq_true rfl, Nat.le_of_ble_eq_true rfl⟩) hK hE hB hw (by omega) c_90 rfl rfl rfl rfl hl.1 (Nat.le_of_ble_eq_true rfl) ⟨Nat.zero_le _, Nat.zero_le _⟩ dX3_changeDay_2 (fun r_2 f_1 H locs hp hw => ?_)
  obtain ⟨er, eu⟩ := hp
  rw [← er]
  rw [← eu] at hw
  refine lv_if_eq (tgt := 18) hx hb dX3_changeDay_5 (by decide) (fun h => absurd h (by decide)) (fun _ => ?_)
  refine lv_aload_n hx hb dX3_changeDay_8 rfl (lv_at hl 0 rfl) ?_
  refine x_get (ci := 4) (C := RX3) (T := TX3) (n := 7) (ref := RX3) hx hb hts hin_4 hown hK hw 90 (by omega) c_90 rfl 4 (by decide) hf_32 (fun _ h => h) rfl dX3_changeDay_9 ?_
  refine lv_iload_n hx hb dX3_changeDay_12 rfl (lv_at hl 1 rfl) ?_
  refine lv_dup2_11 hx hb dX3_changeDay_13 rfl rfl ?_
  refine x_iald (j := i) hx hb hK hw 98 0 (by omega) c_98 rfl rfl (by omega) (by decide) dX3_changeDay_14 ?_
  refine lv_iload_n hx hb dX3_changeDay_15 rfl (lv_at hl 2 rfl) ?_
  refine lv_ixor hx hb dX3_changeDay_16 ?_
  refine lv_topi (fun x_3 ex_3 => ?_)
  refine x_iast (j := i) hx hb hK dd hw 98 0 (by omega) c_98 rfl rfl (by omega) (by decide) dX3_changeDay_17 (fun H locs hw => ?_)
  obtain ⟨f_4, ef_4⟩ : ∃ z, z = va_up f 98 (ai (ca 0) 200 (upd dn i x_3)) := ⟨_, rfl⟩
  have hw : xw D vwCl N ad B s.heap f_4 H locs := by rw [ef_4]; exact hw
  have c_98 : f_4 98 = ai (ca 0) 200 (upd dn i x_3) := va_up_of ef_4
  exact x_vret hx hb hr hlocks hw (by simp only [ef_4, ex_3]) dX3_changeDay_18

abbrev rmX3_computeDigestOf : Room := { frames := 3, cells := 0, slots := 0, locals := 76 }

set_option maxHeartbeats 4000000 in
set_option maxRecDepth 100000 in
theorem k_X3_computeDigestOf (l : Launch) (D : va_G) (ca : Nat → ClassId) (N : Nat) (ad : Nat → Nat) (B tR tK : Nat) (f : Nat → va_E) (dd : xD N ad B) (rc : Nat) (ce : Nat → Int32) (cw : Nat → Int32) (sn : Nat) (sv : Nat → Int32) (kn : Nat → Int32) (fn : Nat → Int32) (dn : Nat → Int32) (M : Nat → Nat → Int32) (i : Nat) (c_90 : f 90 = .inr (4, [.ref (ad 91), .ref (ad 94), .ref (ad 96), .ref (ad 97), .ref (ad 98), .ref (ad 99), .int (nI rc)])) (c_91 : f 91 = .inr (2, [.ref (ad 92), .ref (ad 93)])) (c_92 : f 92 = ai (ca 0) 8 ce) (c_93 : f 93 = ai (ca 0) 64 cw) (c_94 : f 94 = .inr (3, [.ref (ad 95), .int (nI sn)])) (c_95 : f 95 = ai (ca 0) 200 sv) (c_96 : f 96 = ai (ca 0) 200 kn) (c_97 : f 97 = ai (ca 0) 200 fn) (c_98 : f 98 = ai (ca 0) 200 dn) (c_99 : f 99 = aq (ca 4) 200 (fun i => some (ad (100 + i)))) (F_M : ∀ i, i < 200 → f (100 + i) = ai (ca 0) 8 (M i)) (hN : 302 ≤ N) (hi : i < rc) (hrc : rc ≤ 200) (hsn : sn ≤ 200) : xMv l yX3_computeDigestOf wsX3_computeDigestOf rmX3_computeDigestOf [.ref (ad 90), .int (nI i)] D ca N ad B tR tK f (fun u => ∃ sv1 : Nat → Int32, ∃ w1 : Nat → Int32, ∃ e1 : Nat → Int32, (∀ j, j < 8 → e1 j = rowD (prevD M i) (kn i) (fn i) (dn i) j) ∧ u = va_up (va_up (va_up (va_up f 95 (ai (ca 0) 200 sv1)) 94 (.inr (3, [.ref (ad 95), .int (nI 44)]))) 93 (ai (ca 0) 64 w1)) 92 (ai (ca 0) 8 e1)) := by
  refine x_open (cc := cX3_computeDigestOf) (maxL := 3) (ret := none) (by decide) rfl (Nat.le_of_ble_eq_true rfl) ?_
  intro p e s m below meth c ls hx hb hml hown hts hr hlocks hnm hB hK hE hw hl
  have hown : s.vm.findClass RX3 = some m.cls := hown
  have hl : lv_has ls 3 [(0, .ref (ad 90)), (1, .int (nI i))] := hl
  have hin_4 : ∀ w ∈ u_ws RX3 TX3 7, w ∈ wsX3_computeDigestOf := by decide +kernel
  have hf_21 := hts (.fieldLink RX3 21 "FixityRows$RowChain" "sealed" "LFixityRows$Octets;") (by decide +kernel)
  have hf_12 := hts (.fieldLink RX3 12 "FixityRows$RowChain" "longDigest" "LFixityRows$LongDigest;") (by decide +kernel)
  have hf_37 := hts (.fieldLink RX3 37 "FixityRows$RowChain" "digests" "[[I") (by decide +kernel)
  have b_90 := c_90
  have b_91 := c_91
  have b_92 := c_92
  have b_93 := c_93
  have b_94 := c_94
  have b_95 := c_95
  have b_96 := c_96
  have b_97 := c_97
  have b_98 := c_98
  have b_99 := c_99
  have P_53 : ∀ (H : Heap) (locs : List Loc) (ls : Array Slot), xw D vwCl N ad B s.heap (va_up (va_up f 95 (ai (ca 0) 200 (swr sv (rowW (prevD M i) (kn i) (fn i) (dn i)) 8))) 94 (.inr (3, [.ref (ad 95), .int (nI (4 * 8))]))) H locs → lv_has ls 3 [(0, .ref (ad 90)), (1, .int (nI i))] → W p l e rmX3_computeDigestOf s m ([.ref (ad 90), .int (nI i)] : List Value).toArray below meth c H locs 0 0 (MQ below (xQv (fun u => ∃ sv1 : Nat → Int32, ∃ w1 : Nat → Int32, ∃ e1 : Nat → Int32, (∀ j, j < 8 → e1 j = rowD (prevD M i) (kn i) (fn i) (dn i) j) ∧ u = va_up (va_up (va_up (va_up f 95 (ai (ca 0) 200 sv1)) 94 (.inr (3, [.ref (ad 95), .int (nI 44)]))) 93 (ai (ca 0) 64 w1)) 92 (ai (ca 0) 8 e1)) D N ad B) ([.ref (ad 90), .int (nI i)] : List Value).toArray s 0 0 (xA B)) (F0 m 53 ls []) := by
    intro H locs ls hw hl
    have c_90 := b_90
    have c_91 := b_91
    have c_92 := b_92
    have c_93 := b_93
    have c_94 := b_94
    have c_95 := b_95
    have c_96 := b_96
    have c_97 := b_97
    have c_98 := b_98
    have c_99 := b_99
    obtain ⟨f_1, ef_1⟩ : ∃ z, z = va_up (va_up f 95 (ai (ca 0) 200 (swr sv (rowW (prevD M i) (kn i) (fn i) (dn i)) 8))) 94 (.inr (3, [.ref (ad 95), .int (nI (4 * 8))])) := ⟨_, rfl⟩
    have hw : xw D vwCl N ad B s.heap f_1 H locs := by rw [ef_1]; exact hw
    have c_95 : f_1 95 = ai (ca 0) 200 (swr sv (rowW (prevD M i) (kn i) (fn i) (dn i)) 8) := by rw [ef_1, va_up_ne _ _ (by decide), va_up_self]
    have c_94 : f_1 94 = .inr (3, [.ref (ad 95), .int (nI (4 * 8))]) := by rw [ef_1, va_up_self]
    refine lv_aload_n hx hb dX3_computeDigestOf_53 rfl (lv_at hl 0 rfl) ?_
    have c_90 : f_1 90 = .inr (4, [.ref (ad 91), .ref (ad 94), .ref (ad 96), .ref (ad 97), .ref (ad 98), .ref (ad 99), .int (nI rc)]) := by rw [ef_1, va_up_ne _ _ (by decide), va_up_ne _ _ (by decide)]; exact c_90
    refine x_get (ci := 4) (C := RX3) (T := TX3) (n := 7) (ref := RX3) hx hb hts hin_4 hown hK hw 90 (by omega) c_90 rfl 1 (by decide) hf_21 (fun _ h => h) rfl dX3_computeDigestOf_54 ?_
    refine lv_aload_n hx hb dX3_computeDigestOf_57 rfl (lv_at hl 0 rfl) ?_
    refine lv_iload_n hx hb dX3_computeDigestOf_58 rfl (lv_at hl 1 rfl) ?_
    have c_96 : f_1 96 = ai (ca 0) 200 kn := by rw [ef_1, va_up_ne _ _ (by decide), va_up_ne _ _ (by decide)]; exact c_96
    refine x_Vi (q := 90) (As := [.int (nI i)]) (rest := [.ref (ad 94)]) ⟨hx, hb, hml, hown, hts⟩ (k_X3_kindOf_in l D ca N ad B tR tK f_1 dd rc i kn c_90 c_96  (by omega) (by omega) (by omega)) (cwV 1 hts gX3_computeDigestOf_X3_kindOf rfl rfl rfl (by decide +kernel) ⟨Nat.le_of_ble_eq_true rfl, Nat.le_of_ble_eq_true rfl⟩) hK hE hB hw (by omega) c_90 rfl rfl rfl rfl hl.1 (Nat.le_of_ble_eq_true rfl) ⟨Nat.zero_le _, Nat.zero_le _⟩ dX3_computeDigestOf_59 (fun r_3 f_2 H locs hp hw => ?_)
    obtain ⟨er, eu⟩ := hp
    rw [← er]
    rw [← eu] at hw
    refine lv_topi (fun x_4 ex_4 => ?_)
    refine x_Vv (q := 94) (As := [.int x_4]) (rest := []) ⟨hx, hb, hml, hown, hts⟩ (k_X2_pushWord l D ca N ad B tR tK f_1 dd 94 95 (4 * 8) x_4 (swr sv (rowW (prevD M i) (kn i) (fn i) (dn i)) 8) (by omega) c_94 (by omega) c_95  (by omega)) (cwV 1 hts gX3_computeDigestOf_X2_pushWord rfl rfl rfl (by decide +kernel) ⟨Nat.le_of_ble_eq_true rfl, Nat.le_of_ble_eq_true rfl⟩) hK hE hB hw (by omega) c_94 rfl rfl rfl rfl hl.1 (Nat.le_of_ble_eq_true rfl) ⟨Nat.zero_le _, Nat.zero_le _⟩ dX3_computeDigestOf_62 (fun f_5 H locs hp hw => ?_)
    have eu := hp
    have ef_5 : f_5 = va_up (va_up f_1 95 (ai (ca 0) 200 (pwr (swr sv (rowW (prevD M i) (kn i) (fn i) (dn i)) 8) (4 * 8) x_4))) 94 (.inr (3, [.ref (ad 95), .int (nI ((4 * 8) + 4))])) := eu
    have c_95 : f_5 95 = ai (ca 0) 200 (pwr (swr sv (rowW (prevD M i) (kn i) (fn i) (dn i)) 8) (4 * 8) x_4) := by rw [ef_5, va_up_ne _ _ (by decide), va_up_self]
    have c_94 : f_5 94 = .inr (3, [.ref (ad 95), .int (nI ((4 * 8) + 4))]) := by rw [ef_5, va_up_self]
    have c_95 : f_5 95 = ai (ca 0) 200 (swr sv (rowW (prevD M i) (kn i) (fn i) (dn i)) 9) := by rw [c_95]; exact congrArg (fun z => ai (ca 0) 200 z) (swr_step sv (rowW (prevD M i) (kn i) (fn i) (dn i)) 8 _ ex_4.symm)
    have c_94 : f_5 94 = .inr (3, [.ref (ad 95), .int (nI 36)]) := c_94
    refine lv_aload_n hx hb dX3_computeDigestOf_65 rfl (lv_at hl 0 rfl) ?_
    have c_90 : f_5 90 = .inr (4, [.ref (ad 91), .ref (ad 94), .ref (ad 96), .ref (ad 97), .ref (ad 98), .ref (ad 99), .int (nI rc)]) := by rw [ef_5, va_up_ne _ _ (by decide), va_up_ne _ _ (by decide)]; exact c_90
    refine x_get (ci := 4) (C := RX3) (T := TX3) (n := 7) (ref := RX3) hx hb hts hin_4 hown hK hw 90 (by omega) c_90 rfl 1 (by decide) hf_21 (fun _ h => h) rfl dX3_computeDigestOf_66 ?_
    refine lv_aload_n hx hb dX3_computeDigestOf_69 rfl (lv_at hl 0 rfl) ?_
    refine lv_iload_n hx hb dX3_computeDigestOf_70 rfl (lv_at hl 1 rfl) ?_
    have c_97 : f_5 97 = ai (ca 0) 200 fn := by rw [ef_5, va_up_ne _ _ (by decide), va_up_ne _ _ (by decide), ef_1, va_up_ne _ _ (by decide), va_up_ne _ _ (by decide)]; exact c_97
    refine x_Vi (q := 90) (As := [.int (nI i)]) (rest := [.ref (ad 94)]) ⟨hx, hb, hml, hown, hts⟩ (k_X3_fileOf_in l D ca N ad B tR tK f_5 dd rc i fn c_90 c_97  (by omega) (by omega) (by omega)) (cwV 1 hts gX3_computeDigestOf_X3_fileOf rfl rfl rfl (by decide +kernel) ⟨Nat.le_of_ble_eq_true rfl, Nat.le_of_ble_eq_true rfl⟩) hK hE hB hw (by omega) c_90 rfl rfl rfl rfl hl.1 (Nat.le_of_ble_eq_true rfl) ⟨Nat.zero_le _, Nat.zero_le _⟩ dX3_computeDigestOf_71 (fun r_8 f_7 H locs hp hw => ?_)
    obtain ⟨er, eu⟩ := hp
    rw [← er]
    rw [← eu] at hw
    refine lv_topi (fun x_9 ex_9 => ?_)
    refine x_Vv (q := 94) (As := [.int x_9]) (rest := []) ⟨hx, hb, hml, hown, hts⟩ (k_X2_pushWord l D ca N ad B tR tK f_5 dd 94 95 36 x_9 (swr sv (rowW (prevD M i) (kn i) (fn i) (dn i)) 9) (by omega) c_94 (by omega) c_95  (by omega)) (cwV 1 hts gX3_computeDigestOf_X2_pushWord rfl rfl rfl (by decide +kernel) ⟨Nat.le_of_ble_eq_true rfl, Nat.le_of_ble_eq_true rfl⟩) hK hE hB hw (by omega) c_94 rfl rfl rfl rfl hl.1 (Nat.le_of_ble_eq_true rfl) ⟨Nat.zero_le _, Nat.zero_le _⟩ dX3_computeDigestOf_74 (fun f_10 H locs hp hw => ?_)
    have eu := hp
    have ef_10 : f_10 = va_up (va_up f_5 95 (ai (ca 0) 200 (pwr (swr sv (rowW (prevD M i) (kn i) (fn i) (dn i)) 9) 36 x_9))) 94 (.inr (3, [.ref (ad 95), .int (nI (36 + 4))])) := eu
    have c_95 : f_10 95 = ai (ca 0) 200 (pwr (swr sv (rowW (prevD M i) (kn i) (fn i) (dn i)) 9) 36 x_9) := by rw [ef_10, va_up_ne _ _ (by decide), va_up_self]
    have c_94 : f_10 94 = .inr (3, [.ref (ad 95), .int (nI (36 + 4))]) := by rw [ef_10, va_up_self]
    have c_95 : f_10 95 = ai (ca 0) 200 (swr sv (rowW (prevD M i) (kn i) (fn i) (dn i)) 10) := by rw [c_95]; exact congrArg (fun z => ai (ca 0) 200 z) (swr_step sv (rowW (prevD M i) (kn i) (fn i) (dn i)) 9 _ ex_9.symm)
    have c_94 : f_10 94 = .inr (3, [.ref (ad 95), .int (nI 40)]) := c_94
    refine lv_aload_n hx hb dX3_computeDigestOf_77 rfl (lv_at hl 0 rfl) ?_
    have c_90 : f_10 90 = .inr (4, [.ref (ad 91), .ref (ad 94), .ref (ad 96), .ref (ad 97), .ref (ad 98), .ref (ad 99), .int (nI rc)]) := by rw [ef_10, va_up_ne _ _ (by decide), va_up_ne _ _ (by decide)]; exact c_90
    refine x_get (ci := 4) (C := RX3) (T := TX3) (n := 7) (ref := RX3) hx hb hts hin_4 hown hK hw 90 (by omega) c_90 rfl 1 (by decide) hf_21 (fun _ h => h) rfl dX3_computeDigestOf_78 ?_
    refine lv_aload_n hx hb dX3_computeDigestOf_81 rfl (lv_at hl 0 rfl) ?_
    refine lv_iload_n hx hb dX3_computeDigestOf_82 rfl (lv_at hl 1 rfl) ?_
    have c_98 : f_10 98 = ai (ca 0) 200 dn := by rw [ef_10, va_up_ne _ _ (by decide), va_up_ne _ _ (by decide), ef_5, va_up_ne _ _ (by decide), va_up_ne _ _ (by decide), ef_1, va_up_ne _ _ (by decide), va_up_ne _ _ (by decide)]; exact c_98
    refine x_Vi (q := 90) (As := [.int (nI i)]) (rest := [.ref (ad 94)]) ⟨hx, hb, hml, hown, hts⟩ (k_X3_dayOf_in l D ca N ad B tR tK f_10 dd rc i dn c_90 c_98  (by omega) (by omega) (by omega)) (cwV 1 hts gX3_computeDigestOf_X3_dayOf rfl rfl rfl (by decide +kernel) ⟨Nat.le_of_ble_eq_true rfl, Nat.le_of_ble_eq_true rfl⟩) hK hE hB hw (by omega) c_90 rfl rfl rfl rfl hl.1 (Nat.le_of_ble_eq_true rfl) ⟨Nat.zero_le _, Nat.zero_le _⟩ dX3_computeDigestOf_83 (fun r_13 f_12 H locs hp hw => ?_)
    obtain ⟨er, eu⟩ := hp
    rw [← er]
    rw [← eu] at hw
    refine lv_topi (fun x_14 ex_14 => ?_)
    refine x_Vv (q := 94) (As := [.int x_14]) (rest := []) ⟨hx, hb, hml, hown, hts⟩ (k_X2_pushWord l D ca N ad B tR tK f_10 dd 94 95 40 x_14 (swr sv (rowW (prevD M i) (kn i) (fn i) (dn i)) 10) (by omega) c_94 (by omega) c_95  (by omega)) (cwV 1 hts gX3_computeDigestOf_X2_pushWord rfl rfl rfl (by decide +kernel) ⟨Nat.le_of_ble_eq_true rfl, Nat.le_of_ble_eq_true rfl⟩) hK hE hB hw (by omega) c_94 rfl rfl rfl rfl hl.1 (Nat.le_of_ble_eq_true rfl) ⟨Nat.zero_le _, Nat.zero_le _⟩ dX3_computeDigestOf_86 (fun f_15 H locs hp hw => ?_)
    have eu := hp
    have ef_15 : f_15 = va_up (va_up f_10 95 (ai (ca 0) 200 (pwr (swr sv (rowW (prevD M i) (kn i) (fn i) (dn i)) 10) 40 x_14))) 94 (.inr (3, [.ref (ad 95), .int (nI (40 + 4))])) := eu
    have c_95 : f_15 95 = ai (ca 0) 200 (pwr (swr sv (rowW (prevD M i) (kn i) (fn i) (dn i)) 10) 40 x_14) := by rw [ef_15, va_up_ne _ _ (by decide), va_up_self]
    have c_94 : f_15 94 = .inr (3, [.ref (ad 95), .int (nI (40 + 4))]) := by rw [ef_15, va_up_self]
    have c_95 : f_15 95 = ai (ca 0) 200 (swr sv (rowW (prevD M i) (kn i) (fn i) (dn i)) 11) := by rw [c_95]; exact congrArg (fun z => ai (ca 0) 200 z) (swr_step sv (rowW (prevD M i) (kn i) (fn i) (dn i)) 10 _ ex_14.symm)
    have c_94 : f_15 94 = .inr (3, [.ref (ad 95), .int (nI 44)]) := c_94
    refine lv_aload_n hx hb dX3_computeDigestOf_89 rfl (lv_at hl 0 rfl) ?_
    have c_90 : f_15 90 = .inr (4, [.ref (ad 91), .ref (ad 94), .ref (ad 96), .ref (ad 97), .ref (ad 98), .ref (ad 99), .int (nI rc)]) := by rw [ef_15, va_up_ne _ _ (by decide), va_up_ne _ _ (by decide)]; exact c_90
    refine x_get (ci := 4) (C := RX3) (T := TX3) (n := 7) (ref := RX3) hx hb hts hin_4 hown hK hw 90 (by omega) c_90 rfl 0 (by decide) hf_12 (fun _ h => h) rfl dX3_computeDigestOf_90 ?_
    refine lv_aload_n hx hb dX3_computeDigestOf_93 rfl (lv_at hl 0 rfl) ?_
    refine x_get (ci := 4) (C := RX3) (T := TX3) (n := 7) (ref := RX3) hx hb hts hin_4 hown hK hw 90 (by omega) c_90 rfl 1 (by decide) hf_21 (fun _ h => h) rfl dX3_computeDigestOf_94 ?_
    have c_91 : f_15 91 = .inr (2, [.ref (ad 92), .ref (ad 93)]) := by rw [ef_15, va_up_ne _ _ (by decide), va_up_ne _ _ (by decide), ef_10, va_up_ne _ _ (by decide), va_up_ne _ _ (by decide), ef_5, va_up_ne _ _ (by decide), va_up_ne _ _ (by decide), ef_1, va_up_ne _ _ (by decide), va_up_ne _ _ (by decide)]; exact c_91
    have c_92 : f_15 92 = ai (ca 0) 8 ce := by rw [ef_15, va_up_ne _ _ (by decide), va_up_ne _ _ (by decide), ef_10, va_up_ne _ _ (by decide), va_up_ne _ _ (by decide), ef_5, va_up_ne _ _ (by decide), va_up_ne _ _ (by decide), ef_1, va_up_ne _ _ (by decide), va_up_ne _ _ (by decide)]; exact c_92
    have c_93 : f_15 93 = ai (ca 0) 64 cw := by rw [ef_15, va_up_ne _ _ (by decide), va_up_ne _ _ (by decide), ef_10, va_up_ne _ _ (by decide), va_up_ne _ _ (by decide), ef_5, va_up_ne _ _ (by decide), va_up_ne _ _ (by decide), ef_1, va_up_ne _ _ (by decide), va_up_ne _ _ (by decide)]; exact c_93
    refine x_Vv (q := 91) (As := [.ref (ad 94)]) (rest := []) ⟨hx, hb, hml, hown, hts⟩ (k_X1_compute l D ca N ad B tR tK f_15 dd 91 92 93 ce cw 94 95 44 (swr sv (rowW (prevD M i) (kn i) (fn i) (dn i)) 11) (by omega) c_91 (by omega) c_92 (by omega) c_93 (by omega) c_94 (by omega) c_95  (by omega) (by omega) (by omega) (by omega)) (cwV 1 hts gX3_computeDigestOf_X1_compute rfl rfl rfl (by decide +kernel) ⟨Nat.le_of_ble_eq_true rfl, Nat.le_of_ble_eq_true rfl⟩) hK hE hB hw (by omega) c_91 rfl rfl rfl rfl hl.1 (Nat.le_of_ble_eq_true rfl) ⟨Nat.zero_le _, Nat.zero_le _⟩ dX3_computeDigestOf_97 (fun f_17 H locs hp hw => ?_)
    obtain ⟨w1_19, e1_20, hq_21, eu⟩ := hp
    have ef_17 : f_17 = va_up (va_up f_15 93 (ai (ca 0) 64 w1_19)) 92 (ai (ca 0) 8 e1_20) := eu
    have c_93 : f_17 93 = ai (ca 0) 64 w1_19 := by rw [ef_17, va_up_ne _ _ (by decide), va_up_self]
    have c_92 : f_17 92 = ai (ca 0) 8 e1_20 := by rw [ef_17, va_up_self]
    exact x_vret hx hb hr hlocks hw ⟨pwr (swr sv (rowW (prevD M i) (kn i) (fn i) (dn i)) 10) 40 (dn i), w1_19, e1_20, (by rw [← rowD_of (g := sv)]; exact hq_21), (by simp only [ef_17, ef_15, ex_14, ef_10, ex_9, ef_5, ex_4, ef_1, up_aa, up_aba _ _ _ _ (show (95 : Nat) ≠ 94 by decide)])⟩ dX3_computeDigestOf_100
  have P_10 : ∀ (n_10 : Nat) (k : Nat) (H : Heap) (locs : List Loc) (ls : Array Slot), 8 + 1 ≤ k + n_10 → (k ≤ 8) → xw D vwCl N ad B s.heap (va_up (va_up f 95 (ai (ca 0) 200 (swr sv (rowW (prevD M i) (kn i) (fn i) (dn i)) k))) 94 (.inr (3, [.ref (ad 95), .int (nI (4 * k))]))) H locs → lv_has ls 3 [(0, .ref (ad 90)), (1, .int (nI i)), (2, .int (nI k))] → W p l e rmX3_computeDigestOf s m ([.ref (ad 90), .int (nI i)] : List Value).toArray below meth c H locs 0 0 (MQ below (xQv (fun u => ∃ sv1 : Nat → Int32, ∃ w1 : Nat → Int32, ∃ e1 : Nat → Int32, (∀ j, j < 8 → e1 j = rowD (prevD M i) (kn i) (fn i) (dn i) j) ∧ u = va_up (va_up (va_up (va_up f 95 (ai (ca 0) 200 sv1)) 94 (.inr (3, [.ref (ad 95), .int (nI 44)]))) 93 (ai (ca 0) 64 w1)) 92 (ai (ca 0) 8 e1)) D N ad B) ([.ref (ad 90), .int (nI i)] : List Value).toArray s 0 0 (xA B)) (F0 m 10 ls []) := by
    intro n_10
    induction n_10 with
    | zero =>
      intro k H locs ls hm_10 hk hw hl
      exact absurd hm_10 (by omega)
    | succ n_10 ih_10 =>
      intro k H locs ls hm_10 hk hw hl
      have c_90 := b_90
      have c_91 := b_91
      have c_92 := b_92
      have c_93 := b_93
      have c_94 := b_94
      have c_95 := b_95
      have c_96 := b_96
      have c_97 := b_97
      have c_98 := b_98
      have c_99 := b_99
      obtain ⟨f_22, ef_22⟩ : ∃ z, z = va_up (va_up f 95 (ai (ca 0) 200 (swr sv (rowW (prevD M i) (kn i) (fn i) (dn i)) k))) 94 (.inr (3, [.ref (ad 95), .int (nI (4 * k))])) := ⟨_, rfl⟩
      have hw : xw D vwCl N ad B s.heap f_22 H locs := by rw [ef_22]; exact hw
      have c_95 : f_22 95 = ai (ca 0) 200 (swr sv (rowW (prevD M i) (kn i) (fn i) (dn i)) k) := by rw [ef_22, va_up_ne _ _ (by decide), va_up_self]
      have c_94 : f_22 94 = .inr (3, [.ref (ad 95), .int (nI (4 * k))]) := by rw [ef_22, va_up_self]
      refine lv_iload_n hx hb dX3_computeDigestOf_10 rfl (lv_at hl 2 rfl) ?_
      refine lv_bipush (v := nI 8) hx hb dX3_computeDigestOf_11 (by decide) ?_
      refine n_icge (tgt := 53) hx hb dX3_computeDigestOf_13 (by decide) (by omega) (by omega) (fun c_13 => ?_) (fun c_13 => ?_)
      · have hw : xw D vwCl N ad B s.heap (va_up (va_up f 95 (ai (ca 0) 200 (swr sv (rowW (prevD M i) (kn i) (fn i) (dn i)) 8))) 94 (.inr (3, [.ref (ad 95), .int (nI (4 * 8))]))) H locs := by
          have ez : f_22 = va_up (va_up f 95 (ai (ca 0) 200 (swr sv (rowW (prevD M i) (kn i) (fn i) (dn i)) 8))) 94 (.inr (3, [.ref (ad 95), .int (nI (4 * 8))])) := by have ek : k = 8 := (by omega); subst ek; simp only [ef_22]
          rw [← ez]; exact hw
        exact P_53  _ _ _  hw (lv_sub hl [0, 1] rfl)
      · refine lv_aload_n hx hb dX3_computeDigestOf_16 rfl (lv_at hl 0 rfl) ?_
        have c_90 : f_22 90 = .inr (4, [.ref (ad 91), .ref (ad 94), .ref (ad 96), .ref (ad 97), .ref (ad 98), .ref (ad 99), .int (nI rc)]) := by rw [ef_22, va_up_ne _ _ (by decide), va_up_ne _ _ (by decide)]; exact c_90
        refine x_get (ci := 4) (C := RX3) (T := TX3) (n := 7) (ref := RX3) hx hb hts hin_4 hown hK hw 90 (by omega) c_90 rfl 1 (by decide) hf_21 (fun _ h => h) rfl dX3_computeDigestOf_17 ?_
        rcases Nat.eq_zero_or_pos i with hz | hz
        · refine lv_aload_n hx hb dX3_computeDigestOf_20 rfl (lv_at hl 0 rfl) ?_
          refine lv_iload_n hx hb dX3_computeDigestOf_21 rfl (lv_at hl 1 rfl) ?_
          refine lv_iconst (v := nI 1) hx hb dX3_computeDigestOf_22 (by decide) ?_
          refine lv_isub hx hb dX3_computeDigestOf_23 ?_
          refine lv_topi (fun x_23 ex_23 => ?_)
          refine x_Vi (q := 90) (As := [.int x_23]) (rest := [.ref (ad 94)]) ⟨hx, hb, hml, hown, hts⟩ (k_X3_has_out l D ca N ad B tR tK f_22 dd rc x_23 c_90  (by omega) (Or.inl (by rw [ex_23, hz]; decide))) (cwV 1 hts gX3_computeDigestOf_X3_has rfl rfl rfl (by decide +kernel) ⟨Nat.le_of_ble_eq_true rfl, Nat.le_of_ble_eq_true rfl⟩) hK hE hB hw (by omega) c_90 rfl rfl rfl rfl hl.1 (Nat.le_of_ble_eq_true rfl) ⟨Nat.zero_le _, Nat.zero_le _⟩ dX3_computeDigestOf_24 (fun r_25 f_24 H locs hp hw => ?_)
          obtain ⟨er, eu⟩ := hp
          rw [← er]
          rw [← eu] at hw
          refine lv_if_eq (tgt := 43) hx hb dX3_computeDigestOf_27 (by decide) (fun _ => ?_) (fun h => False.elim (h (by decide)))
          refine lv_iconst (v := nI 0) hx hb dX3_computeDigestOf_43 (by decide) ?_
          refine x_Vv (q := 94) (As := [.int (nI 0)]) (rest := []) ⟨hx, hb, hml, hown, hts⟩ (k_X2_pushWord l D ca N ad B tR tK f_22 dd 94 95 (4 * k) (nI 0) (swr sv (rowW (prevD M i) (kn i) (fn i) (dn i)) k) (by omega) c_94 (by omega) c_95  (by omega)) (cwV 1 hts gX3_computeDigestOf_X2_pushWord rfl rfl rfl (by decide +kernel) ⟨Nat.le_of_ble_eq_true rfl, Nat.le_of_ble_eq_true rfl⟩) hK hE hB hw (by omega) c_94 rfl rfl rfl rfl hl.1 (Nat.le_of_ble_eq_true rfl) ⟨Nat.zero_le _, Nat.zero_le _⟩ dX3_computeDigestOf_44 (fun f_26 H locs hp hw => ?_)
          have eu := hp
          have ef_26 : f_26 = va_up (va_up f_22 95 (ai (ca 0) 200 (pwr (swr sv (rowW (prevD M i) (kn i) (fn i) (dn i)) k) (4 * k) (nI 0)))) 94 (.inr (3, [.ref (ad 95), .int (nI ((4 * k) + 4))])) := eu
          have c_95 : f_26 95 = ai (ca 0) 200 (pwr (swr sv (rowW (prevD M i) (kn i) (fn i) (dn i)) k) (4 * k) (nI 0)) := by rw [ef_26, va_up_ne _ _ (by decide), va_up_self]
          have c_94 : f_26 94 = .inr (3, [.ref (ad 95), .int (nI ((4 * k) + 4))]) := by rw [ef_26, va_up_self]
          refine lv_iinc (v := nI (k + 1)) (lv' := [(2, .int (nI (k + 1))), (0, .ref (ad 90)), (1, .int (nI i))]) hx hb dX3_computeDigestOf_47 hl (k := 2) rfl (by rw [show Int32.ofInt 1 = nI 1 from rfl]; exact nI_add _ _) (by decide) rfl (fun ls hl => ?_)
          refine lv_goto (tgt := 10) hx hb dX3_computeDigestOf_50 (by decide) ?_
          have hw : xw D vwCl N ad B s.heap (va_up (va_up f 95 (ai (ca 0) 200 (swr sv (rowW (prevD M i) (kn i) (fn i) (dn i)) (k + 1)))) 94 (.inr (3, [.ref (ad 95), .int (nI (4 * (k + 1)))]))) H locs := by
            have ez : f_26 = va_up (va_up f 95 (ai (ca 0) 200 (swr sv (rowW (prevD M i) (kn i) (fn i) (dn i)) (k + 1)))) 94 (.inr (3, [.ref (ad 95), .int (nI (4 * (k + 1)))])) := by simp only [ef_26, ex_23, ef_22, up_aa, up_aba _ _ _ _ (show (95 : Nat) ≠ 94 by decide)]; rw [swr_step sv (rowW (prevD M i) (kn i) (fn i) (dn i)) k _ (by rw [rowW_lt c_13]; first | exact prevD_0 hz | exact prevD_s hz)]; rfl
            rw [← ez]; exact hw
          exact ih_10 (k + 1) _ _ _ (by omega) (by omega) hw (lv_sub hl [1, 2, 0] rfl)
        · refine lv_aload_n hx hb dX3_computeDigestOf_20 rfl (lv_at hl 0 rfl) ?_
          refine lv_iload_n hx hb dX3_computeDigestOf_21 rfl (lv_at hl 1 rfl) ?_
          refine lv_iconst (v := nI 1) hx hb dX3_computeDigestOf_22 (by decide) ?_
          refine n_isub hx hb dX3_computeDigestOf_23 (by omega) ?_
          refine x_Vi (q := 90) (As := [.int (nI (i - 1))]) (rest := [.ref (ad 94)]) ⟨hx, hb, hml, hown, hts⟩ (k_X3_has_in l D ca N ad B tR tK f_22 dd rc (i - 1) c_90  (by omega) (by omega) (by omega)) (cwV 1 hts gX3_computeDigestOf_X3_has rfl rfl rfl (by decide +kernel) ⟨Nat.le_of_ble_eq_true rfl, Nat.le_of_ble_eq_true rfl⟩) hK hE hB hw (by omega) c_90 rfl rfl rfl rfl hl.1 (Nat.le_of_ble_eq_true rfl) ⟨Nat.zero_le _, Nat.zero_le _⟩ dX3_computeDigestOf_24 (fun r_29 f_28 H locs hp hw => ?_)
          obtain ⟨er, eu⟩ := hp
          rw [← er]
          rw [← eu] at hw
          refine lv_if_eq (tgt := 43) hx hb dX3_computeDigestOf_27 (by decide) (fun h => absurd h (by decide)) (fun _ => ?_)
          refine lv_aload_n hx hb dX3_computeDigestOf_30 rfl (lv_at hl 0 rfl) ?_
          refine x_get (ci := 4) (C := RX3) (T := TX3) (n := 7) (ref := RX3) hx hb hts hin_4 hown hK hw 90 (by omega) c_90 rfl 5 (by decide) hf_37 (fun _ h => h) rfl dX3_computeDigestOf_31 ?_
          refine lv_iload_n hx hb dX3_computeDigestOf_34 rfl (lv_at hl 1 rfl) ?_
          refine lv_iconst (v := nI 1) hx hb dX3_computeDigestOf_35 (by decide) ?_
          refine n_isub hx hb dX3_computeDigestOf_36 (by omega) ?_
          have c_99 : f_22 99 = aq (ca 4) 200 (fun i => some (ad (100 + i))) := by rw [ef_22, va_up_ne _ _ (by decide), va_up_ne _ _ (by decide)]; exact c_99
          refine x_aaldA (j := i - 1) (a := ad (100 + (i - 1))) hx hb hK hw 99 4 (by omega) c_99 rfl rfl (by omega) (by decide) rfl dX3_computeDigestOf_37 ?_
          refine lv_iload_n hx hb dX3_computeDigestOf_38 rfl (lv_at hl 2 rfl) ?_
          have c_100_i_1 : f_22 (100 + (i - 1)) = ai (ca 0) 8 (M (i - 1)) := by rw [ef_22, va_up_ne _ _ (by omega), va_up_ne _ _ (by omega)]; exact (F_M (i - 1) (by omega))
          refine x_iald (j := k) hx hb hK hw (100 + (i - 1)) 0 (by omega) c_100_i_1 rfl rfl (by omega) (by decide) dX3_computeDigestOf_39 ?_
          refine lv_goto (tgt := 44) hx hb dX3_computeDigestOf_40 (by decide) ?_
          refine lv_topi (fun x_30 ex_30 => ?_)
          refine x_Vv (q := 94) (As := [.int x_30]) (rest := []) ⟨hx, hb, hml, hown, hts⟩ (k_X2_pushWord l D ca N ad B tR tK f_22 dd 94 95 (4 * k) x_30 (swr sv (rowW (prevD M i) (kn i) (fn i) (dn i)) k) (by omega) c_94 (by omega) c_95  (by omega)) (cwV 1 hts gX3_computeDigestOf_X2_pushWord rfl rfl rfl (by decide +kernel) ⟨Nat.le_of_ble_eq_true rfl, Nat.le_of_ble_eq_true rfl⟩) hK hE hB hw (by omega) c_94 rfl rfl rfl rfl hl.1 (Nat.le_of_ble_eq_true rfl) ⟨Nat.zero_le _, Nat.zero_le _⟩ dX3_computeDigestOf_44 (fun f_31 H locs hp hw => ?_)
          have eu := hp
          have ef_31 : f_31 = va_up (va_up f_22 95 (ai (ca 0) 200 (pwr (swr sv (rowW (prevD M i) (kn i) (fn i) (dn i)) k) (4 * k) x_30))) 94 (.inr (3, [.ref (ad 95), .int (nI ((4 * k) + 4))])) := eu
          have c_95 : f_31 95 = ai (ca 0) 200 (pwr (swr sv (rowW (prevD M i) (kn i) (fn i) (dn i)) k) (4 * k) x_30) := by rw [ef_31, va_up_ne _ _ (by decide), va_up_self]
          have c_94 : f_31 94 = .inr (3, [.ref (ad 95), .int (nI ((4 * k) + 4))]) := by rw [ef_31, va_up_self]
          refine lv_iinc (v := nI (k + 1)) (lv' := [(2, .int (nI (k + 1))), (0, .ref (ad 90)), (1, .int (nI i))]) hx hb dX3_computeDigestOf_47 hl (k := 2) rfl (by rw [show Int32.ofInt 1 = nI 1 from rfl]; exact nI_add _ _) (by decide) rfl (fun ls hl => ?_)
          refine lv_goto (tgt := 10) hx hb dX3_computeDigestOf_50 (by decide) ?_
          have hw : xw D vwCl N ad B s.heap (va_up (va_up f 95 (ai (ca 0) 200 (swr sv (rowW (prevD M i) (kn i) (fn i) (dn i)) (k + 1)))) 94 (.inr (3, [.ref (ad 95), .int (nI (4 * (k + 1)))]))) H locs := by
            have ez : f_31 = va_up (va_up f 95 (ai (ca 0) 200 (swr sv (rowW (prevD M i) (kn i) (fn i) (dn i)) (k + 1)))) 94 (.inr (3, [.ref (ad 95), .int (nI (4 * (k + 1)))])) := by simp only [ef_31, ex_30, ef_22, up_aa, up_aba _ _ _ _ (show (95 : Nat) ≠ 94 by decide)]; rw [swr_step sv (rowW (prevD M i) (kn i) (fn i) (dn i)) k _ (by rw [rowW_lt c_13]; first | exact prevD_0 hz | exact prevD_s hz)]; rfl
            rw [← ez]; exact hw
          exact ih_10 (k + 1) _ _ _ (by omega) (by omega) hw (lv_sub hl [1, 2, 0] rfl)
  refine lv_aload_n hx hb dX3_computeDigestOf_0 rfl (lv_at hl 0 rfl) ?_
  refine x_get (ci := 4) (C := RX3) (T := TX3) (n := 7) (ref := RX3) hx hb hts hin_4 hown hK hw 90 (by omega) c_90 rfl 1 (by decide) hf_21 (fun _ h => h) rfl dX3_computeDigestOf_1 ?_
  refine lv_iconst (v := nI 0) hx hb dX3_computeDigestOf_4 (by decide) ?_
  refine x_Vv (q := 94) (As := [.int (nI 0)]) (rest := []) ⟨hx, hb, hml, hown, hts⟩ (k_X2_shorten_zero l D ca N ad B tR tK f dd 94 95 sn (by omega) c_94  (by omega)) (cwV 1 hts gX3_computeDigestOf_X2_shorten rfl rfl rfl (by decide +kernel) ⟨Nat.le_of_ble_eq_true rfl, Nat.le_of_ble_eq_true rfl⟩) hK hE hB hw (by omega) c_94 rfl rfl rfl rfl hl.1 (Nat.le_of_ble_eq_true rfl) ⟨Nat.zero_le _, Nat.zero_le _⟩ dX3_computeDigestOf_5 (fun f_33 H locs hp hw => ?_)
  have eu := hp
  have ef_33 : f_33 = va_up f 94 (.inr (3, [.ref (ad 95), .int (nI 0)])) := eu
  have c_94 : f_33 94 = .inr (3, [.ref (ad 95), .int (nI 0)]) := by rw [ef_33, va_up_self]
  refine lv_iconst (v := nI 0) hx hb dX3_computeDigestOf_8 (by decide) ?_
  refine lv_istore_n (lv' := [(2, .int (nI 0)), (0, .ref (ad 90)), (1, .int (nI i))]) hx hb dX3_computeDigestOf_9 rfl hl (by decide) rfl (fun ls hl => ?_)
  have hw : xw D vwCl N ad B s.heap (va_up (va_up f 95 (ai (ca 0) 200 (swr sv (rowW (prevD M i) (kn i) (fn i) (dn i)) 0))) 94 (.inr (3, [.ref (ad 95), .int (nI (4 * 0))]))) H locs := by
    have ez : f_33 = va_up (va_up f 95 (ai (ca 0) 200 (swr sv (rowW (prevD M i) (kn i) (fn i) (dn i)) 0))) 94 (.inr (3, [.ref (ad 95), .int (nI (4 * 0))])) := by rw [ef_33]; show _ = va_up (va_up f 95 (ai (ca 0) 200 sv)) 94 _; rw [← b_95, up_same]
    rw [← ez]; exact hw
  exact P_10 9 0 _ _ _ (by omega) (by omega) hw (lv_sub hl [1, 2, 0] rfl)
end
section
theorem not_all8 {a b : Nat → Int32} (h : ¬ ∀ j, j < 8 → a j = b j) : ∃ j, j < 8 ∧ a j ≠ b j := Classical.byContradiction fun z => h fun j hj => Classical.byContradiction fun q => z ⟨j, hj, q⟩

abbrev rmX3_append : Room := { frames := 4, cells := 0, slots := 0, locals := 98 }

set_option maxHeartbeats 4000000 in
set_option maxRecDepth 100000 in
theorem k_X3_append_in (l : Launch) (D : va_G) (ca : Nat → ClassId) (N : Nat) (ad : Nat → Nat) (B tR tK : Nat) (f : Nat → va_E) (dd : xD N ad B) (rc : Nat) (ce : Nat → Int32) (cw : Nat → Int32) (sn : Nat) (sv : Nat → Int32) (kn : Nat → Int32) (fn : Nat → Int32) (dn : Nat → Int32) (M : Nat → Nat → Int32) (kd : Int32) (fl : Int32) (dy : Int32) (c_90 : f 90 = .inr (4, [.ref (ad 91), .ref (ad 94), .ref (ad 96), .ref (ad 97), .ref (ad 98), .ref (ad 99), .int (nI rc)])) (c_91 : f 91 = .inr (2, [.ref (ad 92), .ref (ad 93)])) (c_92 : f 92 = ai (ca 0) 8 ce) (c_93 : f 93 = ai (ca 0) 64 cw) (c_94 : f 94 = .inr (3, [.ref (ad 95), .int (nI sn)])) (c_95 : f 95 = ai (ca 0) 200 sv) (c_96 : f 96 = ai (ca 0) 200 kn) (c_97 : f 97 = ai (ca 0) 200 fn) (c_98 : f 98 = ai (ca 0) 200 dn) (c_99 : f 99 = aq (ca 4) 200 (fun i => some (ad (100 + i)))) (F_M : ∀ i, i < 200 → f (100 + i) = ai (ca 0) 8 (M i)) (hN : 302 ≤ N) (hrc : rc < 200) (hsn : sn ≤ 200) : xMv l yX3_append wsX3_append rmX3_append [.ref (ad 90), .int kd, .int fl, .int dy] D ca N ad B tR tK f (fun u => ∃ sv1 : Nat → Int32, ∃ w1 : Nat → Int32, ∃ e1 : Nat → Int32, u = va_up (va_up (va_up (va_up (va_up (va_up (va_up (va_up (va_up f 96 (ai (ca 0) 200 (upd kn rc kd))) 97 (ai (ca 0) 200 (upd fn rc fl))) 98 (ai (ca 0) 200 (upd dn rc dy))) 90 (.inr (4, [.ref (ad 91), .ref (ad 94), .ref (ad 96), .ref (ad 97), .ref (ad 98), .ref (ad 99), .int (nI (rc + 1))]))) 95 (ai (ca 0) 200 sv1)) 94 (.inr (3, [.ref (ad 95), .int (nI 44)]))) 93 (ai (ca 0) 64 w1)) 92 (ai (ca 0) 8 e1)) (100 + rc) (ai (ca 0) 8 (rowD (prevD M rc) kd fl dy))) := by
  refine x_open (cc := cX3_append) (maxL := 5) (ret := none) (by decide) rfl (Nat.le_of_ble_eq_true rfl) ?_
  intro p e s m below meth c ls hx hb hml hown hts hr hlocks hnm hB hK hE hw hl
  have hown : s.vm.findClass RX3 = some m.cls := hown
  have hl : lv_has ls 5 [(0, .ref (ad 90)), (1, .int kd), (2, .int fl), (3, .int dy)] := hl
  have hin_4 : ∀ w ∈ u_ws RX3 TX3 7, w ∈ wsX3_append := by decide +kernel
  have hf_40 := hts (.fieldLink RX3 40 "FixityRows$RowChain" "count" "I") (by decide +kernel)
  have hf_25 := hts (.fieldLink RX3 25 "FixityRows$RowChain" "kinds" "[I") (by decide +kernel)
  have hf_29 := hts (.fieldLink RX3 29 "FixityRows$RowChain" "fileNumbers" "[I") (by decide +kernel)
  have hf_32 := hts (.fieldLink RX3 32 "FixityRows$RowChain" "days" "[I") (by decide +kernel)
  have hf_12 := hts (.fieldLink RX3 12 "FixityRows$RowChain" "longDigest" "LFixityRows$LongDigest;") (by decide +kernel)
  have hf_37 := hts (.fieldLink RX3 37 "FixityRows$RowChain" "digests" "[[I") (by decide +kernel)
  have b_90 := c_90
  have b_91 := c_91
  have b_92 := c_92
  have b_93 := c_93
  have b_94 := c_94
  have b_95 := c_95
  have b_96 := c_96
  have b_97 := c_97
  have b_98 := c_98
  have b_99 := c_99
  refine lv_aload_n hx hb dX3_append_0 rfl (lv_at hl 0 rfl) ?_
  refine x_get (ci := 4) (C := RX3) (T := TX3) (n := 7) (ref := RX3) hx hb hts hin_4 hown hK hw 90 (by omega) c_90 rfl 6 (by decide) hf_40 (fun _ h => h) rfl dX3_append_1 ?_
  refine lv_sipush (v := nI 200) hx hb dX3_append_4 (by decide) ?_
  refine n_iclt (tgt := 11) hx hb dX3_append_7 (by decide) (by omega) (by omega) (fun c_7 => ?_) (fun c_7 => ?_)
  · refine lv_aload_n hx hb dX3_append_11 rfl (lv_at hl 0 rfl) ?_
    refine x_get (ci := 4) (C := RX3) (T := TX3) (n := 7) (ref := RX3) hx hb hts hin_4 hown hK hw 90 (by omega) c_90 rfl 6 (by decide) hf_40 (fun _ h => h) rfl dX3_append_12 ?_
    refine lv_istore (lv' := [(4, .int (nI rc)), (0, .ref (ad 90)), (1, .int kd), (2, .int fl), (3, .int dy)]) hx hb dX3_append_15 hl (by decide) rfl (fun ls hl => ?_)
    refine lv_aload_n hx hb dX3_append_17 rfl (lv_at hl 1 rfl) ?_
    refine x_get (ci := 4) (C := RX3) (T := TX3) (n := 7) (ref := RX3) hx hb hts hin_4 hown hK hw 90 (by omega) c_90 rfl 2 (by decide) hf_25 (fun _ h => h) rfl dX3_append_18 ?_
    refine lv_iload hx hb dX3_append_21 (lv_at hl 0 rfl) ?_
    refine lv_iload_n hx hb dX3_append_23 rfl (lv_at hl 2 rfl) ?_
    refine x_iast (j := rc) hx hb hK dd hw 96 0 (by omega) c_96 rfl rfl (by omega) (by decide) dX3_append_24 (fun H locs hw => ?_)
    obtain ⟨f_1, ef_1⟩ : ∃ z, z = va_up f 96 (ai (ca 0) 200 (upd kn rc kd)) := ⟨_, rfl⟩
    have hw : xw D vwCl N ad B s.heap f_1 H locs := by rw [ef_1]; exact hw
    have c_96 : f_1 96 = ai (ca 0) 200 (upd kn rc kd) := va_up_of ef_1
    refine lv_aload_n hx hb dX3_append_25 rfl (lv_at hl 1 rfl) ?_
    have c_90 : f_1 90 = .inr (4, [.ref (ad 91), .ref (ad 94), .ref (ad 96), .ref (ad 97), .ref (ad 98), .ref (ad 99), .int (nI rc)]) := by rw [ef_1, va_up_ne _ _ (by decide)]; exact c_90
    refine x_get (ci := 4) (C := RX3) (T := TX3) (n := 7) (ref := RX3) hx hb hts hin_4 hown hK hw 90 (by omega) c_90 rfl 3 (by decide) hf_29 (fun _ h => h) rfl dX3_append_26 ?_
    refine lv_iload hx hb dX3_append_29 (lv_at hl 0 rfl) ?_
    refine lv_iload_n hx hb dX3_append_31 rfl (lv_at hl 3 rfl) ?_
    have c_97 : f_1 97 = ai (ca 0) 200 fn := by rw [ef_1, va_up_ne _ _ (by decide)]; exact c_97
    refine x_iast (j := rc) hx hb hK dd hw 97 0 (by omega) c_97 rfl rfl (by omega) (by decide) dX3_append_32 (fun H locs hw => ?_)
    obtain ⟨f_2, ef_2⟩ : ∃ z, z = va_up f_1 97 (ai (ca 0) 200 (upd fn rc fl)) := ⟨_, rfl⟩
    have hw : xw D vwCl N ad B s.heap f_2 H locs := by rw [ef_2]; exact hw
    have c_97 : f_2 97 = ai (ca 0) 200 (upd fn rc fl) := va_up_of ef_2
    refine lv_aload_n hx hb dX3_append_33 rfl (lv_at hl 1 rfl) ?_
    have c_90 : f_2 90 = .inr (4, [.ref (ad 91), .ref (ad 94), .ref (ad 96), .ref (ad 97), .ref (ad 98), .ref (ad 99), .int (nI rc)]) := by rw [ef_2, va_up_ne _ _ (by decide)]; exact c_90
    refine x_get (ci := 4) (C := RX3) (T := TX3) (n := 7) (ref := RX3) hx hb hts hin_4 hown hK hw 90 (by omega) c_90 rfl 4 (by decide) hf_32 (fun _ h => h) rfl dX3_append_34 ?_
    refine lv_iload hx hb dX3_append_37 (lv_at hl 0 rfl) ?_
    refine lv_iload_n hx hb dX3_append_39 rfl (lv_at hl 4 rfl) ?_
    have c_98 : f_2 98 = ai (ca 0) 200 dn := by rw [ef_2, va_up_ne _ _ (by decide), ef_1, va_up_ne _ _ (by decide)]; exact c_98
    refine x_iast (j := rc) hx hb hK dd hw 98 0 (by omega) c_98 rfl rfl (by omega) (by decide) dX3_append_40 (fun H locs hw => ?_)
    obtain ⟨f_3, ef_3⟩ : ∃ z, z = va_up f_2 98 (ai (ca 0) 200 (upd dn rc dy)) := ⟨_, rfl⟩
    have hw : xw D vwCl N ad B s.heap f_3 H locs := by rw [ef_3]; exact hw
    have c_98 : f_3 98 = ai (ca 0) 200 (upd dn rc dy) := va_up_of ef_3
    refine lv_aload_n hx hb dX3_append_41 rfl (lv_at hl 1 rfl) ?_
    refine lv_dup hx hb dX3_append_42 rfl ?_
    have c_90 : f_3 90 = .inr (4, [.ref (ad 91), .ref (ad 94), .ref (ad 96), .ref (ad 97), .ref (ad 98), .ref (ad 99), .int (nI rc)]) := by rw [ef_3, va_up_ne _ _ (by decide)]; exact c_90
    refine x_get (ci := 4) (C := RX3) (T := TX3) (n := 7) (ref := RX3) hx hb hts hin_4 hown hK hw 90 (by omega) c_90 rfl 6 (by decide) hf_40 (fun _ h => h) rfl dX3_append_43 ?_
    refine lv_iconst (v := nI 1) hx hb dX3_append_46 (by decide) ?_
    refine n_iadd hx hb dX3_append_47 ?_
    refine x_put (ci := 4) (C := RX3) (T := TX3) (n := 7) (ref := RX3) (fs' := [.ref (ad 91), .ref (ad 94), .ref (ad 96), .ref (ad 97), .ref (ad 98), .ref (ad 99), .int (nI (rc + 1))]) hx hb hts hin_4 tyX3 tyX3_ok nmX3 hown hK dd hw 90 (by omega) c_90 rfl 6 (by decide) hf_40 (fun _ h => h) rfl rfl rfl (Nat.le_of_ble_eq_true rfl) rfl dX3_append_48 (fun H locs hw => ?_)
    obtain ⟨f_4, ef_4⟩ : ∃ z, z = va_up f_3 90 (.inr (4, [.ref (ad 91), .ref (ad 94), .ref (ad 96), .ref (ad 97), .ref (ad 98), .ref (ad 99), .int (nI (rc + 1))])) := ⟨_, rfl⟩
    have hw : xw D vwCl N ad B s.heap f_4 H locs := by rw [ef_4]; exact hw
    have c_90 : f_4 90 = .inr (4, [.ref (ad 91), .ref (ad 94), .ref (ad 96), .ref (ad 97), .ref (ad 98), .ref (ad 99), .int (nI (rc + 1))]) := va_up_of ef_4
    refine lv_aload_n hx hb dX3_append_51 rfl (lv_at hl 1 rfl) ?_
    refine lv_iload hx hb dX3_append_52 (lv_at hl 0 rfl) ?_
    have c_91 : f_4 91 = .inr (2, [.ref (ad 92), .ref (ad 93)]) := by rw [ef_4, va_up_ne _ _ (by decide), ef_3, va_up_ne _ _ (by decide), ef_2, va_up_ne _ _ (by decide), ef_1, va_up_ne _ _ (by decide)]; exact c_91
    have c_92 : f_4 92 = ai (ca 0) 8 ce := by rw [ef_4, va_up_ne _ _ (by decide), ef_3, va_up_ne _ _ (by decide), ef_2, va_up_ne _ _ (by decide), ef_1, va_up_ne _ _ (by decide)]; exact c_92
    have c_93 : f_4 93 = ai (ca 0) 64 cw := by rw [ef_4, va_up_ne _ _ (by decide), ef_3, va_up_ne _ _ (by decide), ef_2, va_up_ne _ _ (by decide), ef_1, va_up_ne _ _ (by decide)]; exact c_93
    have c_94 : f_4 94 = .inr (3, [.ref (ad 95), .int (nI sn)]) := by rw [ef_4, va_up_ne _ _ (by decide), ef_3, va_up_ne _ _ (by decide), ef_2, va_up_ne _ _ (by decide), ef_1, va_up_ne _ _ (by decide)]; exact c_94
    have c_95 : f_4 95 = ai (ca 0) 200 sv := by rw [ef_4, va_up_ne _ _ (by decide), ef_3, va_up_ne _ _ (by decide), ef_2, va_up_ne _ _ (by decide), ef_1, va_up_ne _ _ (by decide)]; exact c_95
    have c_96 : f_4 96 = ai (ca 0) 200 (upd kn rc kd) := by rw [ef_4, va_up_ne _ _ (by decide), ef_3, va_up_ne _ _ (by decide), ef_2, va_up_ne _ _ (by decide)]; exact c_96
    have c_97 : f_4 97 = ai (ca 0) 200 (upd fn rc fl) := by rw [ef_4, va_up_ne _ _ (by decide), ef_3, va_up_ne _ _ (by decide)]; exact c_97
    have c_98 : f_4 98 = ai (ca 0) 200 (upd dn rc dy) := by rw [ef_4, va_up_ne _ _ (by decide)]; exact c_98
    have c_99 : f_4 99 = aq (ca 4) 200 (fun i => some (ad (100 + i))) := by rw [ef_4, va_up_ne _ _ (by decide), ef_3, va_up_ne _ _ (by decide), ef_2, va_up_ne _ _ (by decide), ef_1, va_up_ne _ _ (by decide)]; exact c_99
    refine x_Vv (q := 90) (As := [.int (nI rc)]) (rest := []) ⟨hx, hb, hml, hown, hts⟩ (k_X3_computeDigestOf l D ca N ad B tR tK f_4 dd (rc + 1) ce cw sn sv (upd kn rc kd) (upd fn rc fl) (upd dn rc dy) M rc c_90 c_91 c_92 c_93 c_94 c_95 c_96 c_97 c_98 c_99 (fun i hi => by rw [ef_4, va_up_ne _ _ (by omega), ef_3, va_up_ne _ _ (by omega), ef_2, va_up_ne _ _ (by omega), ef_1, va_up_ne _ _ (by omega)]; exact F_M i hi) (by omega) (by omega) (by omega) (by omega)) (cwV 1 hts gX3_append_X3_computeDigestOf rfl rfl rfl (by decide +kernel) ⟨Nat.le_of_ble_eq_true rfl, Nat.le_of_ble_eq_true rfl⟩) hK hE hB hw (by omega) c_90 rfl rfl rfl rfl hl.1 (Nat.le_of_ble_eq_true rfl) ⟨Nat.zero_le _, Nat.zero_le _⟩ dX3_append_54 (fun f_5 H locs hp hw => ?_)
    obtain ⟨sv1_7, w1_8, e1_9, hq_10, eu⟩ := hp
    have ef_5 : f_5 = va_up (va_up (va_up (va_up f_4 95 (ai (ca 0) 200 sv1_7)) 94 (.inr (3, [.ref (ad 95), .int (nI 44)]))) 93 (ai (ca 0) 64 w1_8)) 92 (ai (ca 0) 8 e1_9) := eu
    have c_95 : f_5 95 = ai (ca 0) 200 sv1_7 := by rw [ef_5, va_up_ne _ _ (by decide), va_up_ne _ _ (by decide), va_up_ne _ _ (by decide), va_up_self]
    have c_94 : f_5 94 = .inr (3, [.ref (ad 95), .int (nI 44)]) := by rw [ef_5, va_up_ne _ _ (by decide), va_up_ne _ _ (by decide), va_up_self]
    have c_93 : f_5 93 = ai (ca 0) 64 w1_8 := by rw [ef_5, va_up_ne _ _ (by decide), va_up_self]
    have c_92 : f_5 92 = ai (ca 0) 8 e1_9 := by rw [ef_5, va_up_self]
    refine lv_aload_n hx hb dX3_append_57 rfl (lv_at hl 1 rfl) ?_
    have c_90 : f_5 90 = .inr (4, [.ref (ad 91), .ref (ad 94), .ref (ad 96), .ref (ad 97), .ref (ad 98), .ref (ad 99), .int (nI (rc + 1))]) := by rw [ef_5, va_up_ne _ _ (by decide), va_up_ne _ _ (by decide), va_up_ne _ _ (by decide), va_up_ne _ _ (by decide)]; exact c_90
    refine x_get (ci := 4) (C := RX3) (T := TX3) (n := 7) (ref := RX3) hx hb hts hin_4 hown hK hw 90 (by omega) c_90 rfl 0 (by decide) hf_12 (fun _ h => h) rfl dX3_append_58 ?_
    refine lv_aload_n hx hb dX3_append_61 rfl (lv_at hl 1 rfl) ?_
    refine x_get (ci := 4) (C := RX3) (T := TX3) (n := 7) (ref := RX3) hx hb hts hin_4 hown hK hw 90 (by omega) c_90 rfl 5 (by decide) hf_37 (fun _ h => h) rfl dX3_append_62 ?_
    refine lv_iload hx hb dX3_append_65 (lv_at hl 0 rfl) ?_
    have c_99 : f_5 99 = aq (ca 4) 200 (fun i => some (ad (100 + i))) := by rw [ef_5, va_up_ne _ _ (by decide), va_up_ne _ _ (by decide), va_up_ne _ _ (by decide), va_up_ne _ _ (by decide)]; exact c_99
    refine x_aaldA (j := rc) (a := ad (100 + rc)) hx hb hK hw 99 4 (by omega) c_99 rfl rfl (by omega) (by decide) rfl dX3_append_67 ?_
    have c_91 : f_5 91 = .inr (2, [.ref (ad 92), .ref (ad 93)]) := by rw [ef_5, va_up_ne _ _ (by decide), va_up_ne _ _ (by decide), va_up_ne _ _ (by decide), va_up_ne _ _ (by decide)]; exact c_91
    have c_100_rc : f_5 (100 + rc) = ai (ca 0) 8 (M rc) := by rw [ef_5, va_up_ne _ _ (by omega), va_up_ne _ _ (by omega), va_up_ne _ _ (by omega), va_up_ne _ _ (by omega), ef_4, va_up_ne _ _ (by omega), ef_3, va_up_ne _ _ (by omega), ef_2, va_up_ne _ _ (by omega), ef_1, va_up_ne _ _ (by omega)]; exact (F_M rc (by omega))
    refine x_Vv (q := 91) (As := [.ref (ad (100 + rc))]) (rest := []) ⟨hx, hb, hml, hown, hts⟩ (k_X1_copyTo l D ca N ad B tR tK f_5 dd 91 92 93 e1_9 (100 + rc) (M rc) (by omega) c_91 (by omega) c_92 (by omega) c_100_rc  (by omega)) (cwV 1 hts gX3_append_X1_copyTo rfl rfl rfl (by decide +kernel) ⟨Nat.le_of_ble_eq_true rfl, Nat.le_of_ble_eq_true rfl⟩) hK hE hB hw (by omega) c_91 rfl rfl rfl rfl hl.1 (Nat.le_of_ble_eq_true rfl) ⟨Nat.zero_le _, Nat.zero_le _⟩ dX3_append_68 (fun f_11 H locs hp hw => ?_)
    have eu := hp
    have ef_11 : f_11 = va_up f_5 (100 + rc) (ai (ca 0) 8 (cpyTo (M rc) e1_9 8)) := eu
    have c_100_rc : f_11 (100 + rc) = ai (ca 0) 8 (cpyTo (M rc) e1_9 8) := by rw [ef_11, va_up_self]
    obtain ⟨f_13, ef_13⟩ : ∃ z, z = va_up f_5 (100 + rc) (ai (ca 0) 8 (rowD (prevD M rc) kd fl dy)) := ⟨_, rfl⟩
    have hw : xw D vwCl N ad B s.heap f_13 H locs := by rw [ef_13]; exact xw.arr (by rw [← ef_11]; exact hw) (fun j hj => by rw [cp_in hj, hq_10 j hj, pk_us, pk_us, pk_us])
    have c_100_rc : f_13 (100 + rc) = ai (ca 0) 8 (rowD (prevD M rc) kd fl dy) := va_up_of ef_13
    exact x_vret hx hb hr hlocks hw ⟨sv1_7, w1_8, e1_9, (by simp only [ef_13, ef_5, ef_4, ef_3, ef_2, ef_1])⟩ dX3_append_71
  · omega

set_option maxHeartbeats 4000000 in
set_option maxRecDepth 100000 in
theorem k_X3_append_full (l : Launch) (D : va_G) (ca : Nat → ClassId) (N : Nat) (ad : Nat → Nat) (B tR tK : Nat) (f : Nat → va_E) (dd : xD N ad B) (rc : Nat) (kd : Int32) (fl : Int32) (dy : Int32) (c_90 : f 90 = .inr (4, [.ref (ad 91), .ref (ad 94), .ref (ad 96), .ref (ad 97), .ref (ad 98), .ref (ad 99), .int (nI rc)]))  (hN : 302 ≤ N) (hrc : rc = 200) : xMv l yX3_append wsX3_append rmX3_append [.ref (ad 90), .int kd, .int fl, .int dy] D ca N ad B tR tK f (fun u => f = u) := by
  refine x_open (cc := cX3_append) (maxL := 5) (ret := none) (by decide) rfl (Nat.le_of_ble_eq_true rfl) ?_
  intro p e s m below meth c ls hx hb hml hown hts hr hlocks hnm hB hK hE hw hl
  have hown : s.vm.findClass RX3 = some m.cls := hown
  have hl : lv_has ls 5 [(0, .ref (ad 90)), (1, .int kd), (2, .int fl), (3, .int dy)] := hl
  have hin_4 : ∀ w ∈ u_ws RX3 TX3 7, w ∈ wsX3_append := by decide +kernel
  have hf_40 := hts (.fieldLink RX3 40 "FixityRows$RowChain" "count" "I") (by decide +kernel)
  have b_90 := c_90
  refine lv_aload_n hx hb dX3_append_0 rfl (lv_at hl 0 rfl) ?_
  refine x_get (ci := 4) (C := RX3) (T := TX3) (n := 7) (ref := RX3) hx hb hts hin_4 hown hK hw 90 (by omega) c_90 rfl 6 (by decide) hf_40 (fun _ h => h) rfl dX3_append_1 ?_
  refine lv_sipush (v := nI 200) hx hb dX3_append_4 (by decide) ?_
  refine n_iclt (tgt := 11) hx hb dX3_append_7 (by decide) (by omega) (by omega) (fun c_7 => ?_) (fun c_7 => ?_)
  · omega
  · exact x_vret hx hb hr hlocks hw rfl dX3_append_10

abbrev rmX3_firstBroken : Room := { frames := 4, cells := 0, slots := 0, locals := 98 }

theorem up_4 (f : Nat → va_E) (a b c d a' b' c' d' : va_E) : va_up (va_up (va_up (va_up (va_up (va_up (va_up (va_up f 95 a) 94 b) 93 c) 92 d) 95 a') 94 b') 93 c') 92 d' = va_up (va_up (va_up (va_up f 95 a') 94 b') 93 c') 92 d' := by
  funext j
  simp only [va_up]
  by_cases h1 : j = 92
  · simp [h1]
  · by_cases h2 : j = 93
    · simp [h2]
    · by_cases h3 : j = 94
      · simp [h3]
      · by_cases h4 : j = 95
        · simp [h4]
        · simp [h1, h2, h3, h4]

set_option maxHeartbeats 4000000 in
set_option maxRecDepth 100000 in
theorem k_X3_firstBroken_none (l : Launch) (D : va_G) (ca : Nat → ClassId) (N : Nat) (ad : Nat → Nat) (B tR tK : Nat) (f : Nat → va_E) (dd : xD N ad B) (rc : Nat) (ce : Nat → Int32) (cw : Nat → Int32) (sn : Nat) (sv : Nat → Int32) (kn : Nat → Int32) (fn : Nat → Int32) (dn : Nat → Int32) (M : Nat → Nat → Int32) (c_90 : f 90 = .inr (4, [.ref (ad 91), .ref (ad 94), .ref (ad 96), .ref (ad 97), .ref (ad 98), .ref (ad 99), .int (nI rc)])) (c_91 : f 91 = .inr (2, [.ref (ad 92), .ref (ad 93)])) (c_92 : f 92 = ai (ca 0) 8 ce) (c_93 : f 93 = ai (ca 0) 64 cw) (c_94 : f 94 = .inr (3, [.ref (ad 95), .int (nI sn)])) (c_95 : f 95 = ai (ca 0) 200 sv) (c_96 : f 96 = ai (ca 0) 200 kn) (c_97 : f 97 = ai (ca 0) 200 fn) (c_98 : f 98 = ai (ca 0) 200 dn) (c_99 : f 99 = aq (ca 4) 200 (fun i => some (ad (100 + i)))) (F_M : ∀ i, i < 200 → f (100 + i) = ai (ca 0) 8 (M i)) (hN : 302 ≤ N) (hrc : rc ≤ 200) (hsn : sn ≤ 200) (hall : ∀ i, i < rc → ∀ j, j < 8 → M i j = rowD (prevD M i) (kn i) (fn i) (dn i) j) : xMi l yX3_firstBroken wsX3_firstBroken rmX3_firstBroken [.ref (ad 90)] D ca N ad B tR tK f (fun r u => ∃ s1 : Nat → Int32, ∃ n1 : Nat, ∃ w1 : Nat → Int32, ∃ e1 : Nat → Int32, n1 ≤ 200 ∧ (-1) = r ∧ u = va_up (va_up (va_up (va_up f 95 (ai (ca 0) 200 s1)) 94 (.inr (3, [.ref (ad 95), .int (nI n1)]))) 93 (ai (ca 0) 64 w1)) 92 (ai (ca 0) 8 e1)) := by
  refine x_open (cc := cX3_firstBroken) (maxL := 2) (ret := (some .int)) (by decide) rfl (Nat.le_of_ble_eq_true rfl) ?_
  intro p e s m below meth c ls hx hb hml hown hts hr hlocks hnm hB hK hE hw hl
  have hown : s.vm.findClass RX3 = some m.cls := hown
  have hl : lv_has ls 2 [(0, .ref (ad 90))] := hl
  have hin_4 : ∀ w ∈ u_ws RX3 TX3 7, w ∈ wsX3_firstBroken := by decide +kernel
  have hf_40 := hts (.fieldLink RX3 40 "FixityRows$RowChain" "count" "I") (by decide +kernel)
  have hf_12 := hts (.fieldLink RX3 12 "FixityRows$RowChain" "longDigest" "LFixityRows$LongDigest;") (by decide +kernel)
  have hf_37 := hts (.fieldLink RX3 37 "FixityRows$RowChain" "digests" "[[I") (by decide +kernel)
  have b_90 := c_90
  have b_91 := c_91
  have b_92 := c_92
  have b_93 := c_93
  have b_94 := c_94
  have b_95 := c_95
  have b_96 := c_96
  have b_97 := c_97
  have b_98 := c_98
  have b_99 := c_99
  have P_2 : ∀ (n_2 : Nat) (s1 : Nat → Int32) (n1 : Nat) (w1 : Nat → Int32) (e1 : Nat → Int32) (i : Nat) (H : Heap) (locs : List Loc) (ls : Array Slot), rc + 1 ≤ i + n_2 → (i ≤ rc) → (n1 ≤ 200) → xw D vwCl N ad B s.heap (va_up (va_up (va_up (va_up f 95 (ai (ca 0) 200 s1)) 94 (.inr (3, [.ref (ad 95), .int (nI n1)]))) 93 (ai (ca 0) 64 w1)) 92 (ai (ca 0) 8 e1)) H locs → lv_has ls 2 [(0, .ref (ad 90)), (1, .int (nI i))] → W p l e rmX3_firstBroken s m ([.ref (ad 90)] : List Value).toArray below meth c H locs 0 0 (MQ below (xQi (fun r u => ∃ s1 : Nat → Int32, ∃ n1 : Nat, ∃ w1 : Nat → Int32, ∃ e1 : Nat → Int32, n1 ≤ 200 ∧ (-1) = r ∧ u = va_up (va_up (va_up (va_up f 95 (ai (ca 0) 200 s1)) 94 (.inr (3, [.ref (ad 95), .int (nI n1)]))) 93 (ai (ca 0) 64 w1)) 92 (ai (ca 0) 8 e1)) D N ad B) ([.ref (ad 90)] : List Value).toArray s 0 0 (xA B)) (F0 m 2 ls []) := by
    intro n_2
    induction n_2 with
    | zero =>
      intro s1 n1 w1 e1 i H locs ls hm_2 hi hn1 hw hl
      exact absurd hm_2 (by omega)
    | succ n_2 ih_2 =>
      intro s1 n1 w1 e1 i H locs ls hm_2 hi hn1 hw hl
      have c_90 := b_90
      have c_91 := b_91
      have c_92 := b_92
      have c_93 := b_93
      have c_94 := b_94
      have c_95 := b_95
      have c_96 := b_96
      have c_97 := b_97
      have c_98 := b_98
      have c_99 := b_99
      obtain ⟨f_1, ef_1⟩ : ∃ z, z = va_up (va_up (va_up (va_up f 95 (ai (ca 0) 200 s1)) 94 (.inr (3, [.ref (ad 95), .int (nI n1)]))) 93 (ai (ca 0) 64 w1)) 92 (ai (ca 0) 8 e1) := ⟨_, rfl⟩
      have hw : xw D vwCl N ad B s.heap f_1 H locs := by rw [ef_1]; exact hw
      have c_95 : f_1 95 = ai (ca 0) 200 s1 := by rw [ef_1, va_up_ne _ _ (by decide), va_up_ne _ _ (by decide), va_up_ne _ _ (by decide), va_up_self]
      have c_94 : f_1 94 = .inr (3, [.ref (ad 95), .int (nI n1)]) := by rw [ef_1, va_up_ne _ _ (by decide), va_up_ne _ _ (by decide), va_up_self]
      have c_93 : f_1 93 = ai (ca 0) 64 w1 := by rw [ef_1, va_up_ne _ _ (by decide), va_up_self]
      have c_92 : f_1 92 = ai (ca 0) 8 e1 := by rw [ef_1, va_up_self]
      refine lv_iload_n hx hb dX3_firstBroken_2 rfl (lv_at hl 1 rfl) ?_
      refine lv_aload_n hx hb dX3_firstBroken_3 rfl (lv_at hl 0 rfl) ?_
      have c_90 : f_1 90 = .inr (4, [.ref (ad 91), .ref (ad 94), .ref (ad 96), .ref (ad 97), .ref (ad 98), .ref (ad 99), .int (nI rc)]) := by rw [ef_1, va_up_ne _ _ (by decide), va_up_ne _ _ (by decide), va_up_ne _ _ (by decide), va_up_ne _ _ (by decide)]; exact c_90
      refine x_get (ci := 4) (C := RX3) (T := TX3) (n := 7) (ref := RX3) hx hb hts hin_4 hown hK hw 90 (by omega) c_90 rfl 6 (by decide) hf_40 (fun _ h => h) rfl dX3_firstBroken_4 ?_
      refine n_icge (tgt := 39) hx hb dX3_firstBroken_7 (by decide) (by omega) (by omega) (fun c_7 => ?_) (fun c_7 => ?_)
      · refine lv_iconst (v := (-1)) hx hb dX3_firstBroken_39 (by decide) ?_
        exact x_iret hx hb hr hlocks hw ⟨s1, n1, w1, e1, hn1, rfl, (by simp only [ef_1])⟩ dX3_firstBroken_40
      · refine lv_aload_n hx hb dX3_firstBroken_10 rfl (lv_at hl 0 rfl) ?_
        refine lv_iload_n hx hb dX3_firstBroken_11 rfl (lv_at hl 1 rfl) ?_
        have c_91 : f_1 91 = .inr (2, [.ref (ad 92), .ref (ad 93)]) := by rw [ef_1, va_up_ne _ _ (by decide), va_up_ne _ _ (by decide), va_up_ne _ _ (by decide), va_up_ne _ _ (by decide)]; exact c_91
        have c_96 : f_1 96 = ai (ca 0) 200 kn := by rw [ef_1, va_up_ne _ _ (by decide), va_up_ne _ _ (by decide), va_up_ne _ _ (by decide), va_up_ne _ _ (by decide)]; exact c_96
        have c_97 : f_1 97 = ai (ca 0) 200 fn := by rw [ef_1, va_up_ne _ _ (by decide), va_up_ne _ _ (by decide), va_up_ne _ _ (by decide), va_up_ne _ _ (by decide)]; exact c_97
        have c_98 : f_1 98 = ai (ca 0) 200 dn := by rw [ef_1, va_up_ne _ _ (by decide), va_up_ne _ _ (by decide), va_up_ne _ _ (by decide), va_up_ne _ _ (by decide)]; exact c_98
        have c_99 : f_1 99 = aq (ca 4) 200 (fun i => some (ad (100 + i))) := by rw [ef_1, va_up_ne _ _ (by decide), va_up_ne _ _ (by decide), va_up_ne _ _ (by decide), va_up_ne _ _ (by decide)]; exact c_99
        refine x_Vv (q := 90) (As := [.int (nI i)]) (rest := []) ⟨hx, hb, hml, hown, hts⟩ (k_X3_computeDigestOf l D ca N ad B tR tK f_1 dd rc e1 w1 n1 s1 kn fn dn M i c_90 c_91 c_92 c_93 c_94 c_95 c_96 c_97 c_98 c_99 (fun i hi => by rw [ef_1, va_up_ne _ _ (by omega), va_up_ne _ _ (by omega), va_up_ne _ _ (by omega), va_up_ne _ _ (by omega)]; exact F_M i hi) (by omega) (by omega) (by omega) (by omega)) (cwV 1 hts gX3_firstBroken_X3_computeDigestOf rfl rfl rfl (by decide +kernel) ⟨Nat.le_of_ble_eq_true rfl, Nat.le_of_ble_eq_true rfl⟩) hK hE hB hw (by omega) c_90 rfl rfl rfl rfl hl.1 (Nat.le_of_ble_eq_true rfl) ⟨Nat.zero_le _, Nat.zero_le _⟩ dX3_firstBroken_12 (fun f_2 H locs hp hw => ?_)
        obtain ⟨sv1_4, w1_5, e1_6, hq_7, eu⟩ := hp
        have ef_2 : f_2 = va_up (va_up (va_up (va_up f_1 95 (ai (ca 0) 200 sv1_4)) 94 (.inr (3, [.ref (ad 95), .int (nI 44)]))) 93 (ai (ca 0) 64 w1_5)) 92 (ai (ca 0) 8 e1_6) := eu
        have c_95 : f_2 95 = ai (ca 0) 200 sv1_4 := by rw [ef_2, va_up_ne _ _ (by decide), va_up_ne _ _ (by decide), va_up_ne _ _ (by decide), va_up_self]
        have c_94 : f_2 94 = .inr (3, [.ref (ad 95), .int (nI 44)]) := by rw [ef_2, va_up_ne _ _ (by decide), va_up_ne _ _ (by decide), va_up_self]
        have c_93 : f_2 93 = ai (ca 0) 64 w1_5 := by rw [ef_2, va_up_ne _ _ (by decide), va_up_self]
        have c_92 : f_2 92 = ai (ca 0) 8 e1_6 := by rw [ef_2, va_up_self]
        refine lv_aload_n hx hb dX3_firstBroken_15 rfl (lv_at hl 0 rfl) ?_
        have c_90 : f_2 90 = .inr (4, [.ref (ad 91), .ref (ad 94), .ref (ad 96), .ref (ad 97), .ref (ad 98), .ref (ad 99), .int (nI rc)]) := by rw [ef_2, va_up_ne _ _ (by decide), va_up_ne _ _ (by decide), va_up_ne _ _ (by decide), va_up_ne _ _ (by decide)]; exact c_90
        refine x_get (ci := 4) (C := RX3) (T := TX3) (n := 7) (ref := RX3) hx hb hts hin_4 hown hK hw 90 (by omega) c_90 rfl 0 (by decide) hf_12 (fun _ h => h) rfl dX3_firstBroken_16 ?_
        refine lv_aload_n hx hb dX3_firstBroken_19 rfl (lv_at hl 0 rfl) ?_
        refine x_get (ci := 4) (C := RX3) (T := TX3) (n := 7) (ref := RX3) hx hb hts hin_4 hown hK hw 90 (by omega) c_90 rfl 5 (by decide) hf_37 (fun _ h => h) rfl dX3_firstBroken_20 ?_
        refine lv_iload_n hx hb dX3_firstBroken_23 rfl (lv_at hl 1 rfl) ?_
        have c_99 : f_2 99 = aq (ca 4) 200 (fun i => some (ad (100 + i))) := by rw [ef_2, va_up_ne _ _ (by decide), va_up_ne _ _ (by decide), va_up_ne _ _ (by decide), va_up_ne _ _ (by decide)]; exact c_99
        refine x_aaldA (j := i) (a := ad (100 + i)) hx hb hK hw 99 4 (by omega) c_99 rfl rfl (by omega) (by decide) rfl dX3_firstBroken_24 ?_
        have c_91 : f_2 91 = .inr (2, [.ref (ad 92), .ref (ad 93)]) := by rw [ef_2, va_up_ne _ _ (by decide), va_up_ne _ _ (by decide), va_up_ne _ _ (by decide), va_up_ne _ _ (by decide)]; exact c_91
        have c_100_i : f_2 (100 + i) = ai (ca 0) 8 (M i) := by rw [ef_2, va_up_ne _ _ (by omega), va_up_ne _ _ (by omega), va_up_ne _ _ (by omega), va_up_ne _ _ (by omega), ef_1, va_up_ne _ _ (by omega), va_up_ne _ _ (by omega), va_up_ne _ _ (by omega), va_up_ne _ _ (by omega)]; exact (F_M i (by omega))
        refine x_Vi (q := 91) (As := [.ref (ad (100 + i))]) (rest := []) ⟨hx, hb, hml, hown, hts⟩ (k_X1_equalTo_yes l D ca N ad B tR tK f_2 dd 91 92 93 e1_6 (100 + i) (M i) (by omega) c_91 (by omega) c_92 (by omega) c_100_i  (fun j hj => (hall i c_7 j hj).trans (hq_7 j hj).symm)) (cwV 1 hts gX3_firstBroken_X1_equalTo rfl rfl rfl (by decide +kernel) ⟨Nat.le_of_ble_eq_true rfl, Nat.le_of_ble_eq_true rfl⟩) hK hE hB hw (by omega) c_91 rfl rfl rfl rfl hl.1 (Nat.le_of_ble_eq_true rfl) ⟨Nat.zero_le _, Nat.zero_le _⟩ dX3_firstBroken_25 (fun r_9 f_8 H locs hp hw => ?_)
        obtain ⟨er, eu⟩ := hp
        rw [← er]
        rw [← eu] at hw
        refine lv_if_ne (tgt := 33) hx hb dX3_firstBroken_28 (by decide) (fun _ => ?_) (fun h => absurd h (by decide))
        refine lv_iinc (v := nI (i + 1)) (lv' := [(1, .int (nI (i + 1))), (0, .ref (ad 90))]) hx hb dX3_firstBroken_33 hl (k := 1) rfl (by rw [show Int32.ofInt 1 = nI 1 from rfl]; exact nI_add _ _) (by decide) rfl (fun ls hl => ?_)
        refine lv_goto (tgt := 2) hx hb dX3_firstBroken_36 (by decide) ?_
        have hw : xw D vwCl N ad B s.heap (va_up (va_up (va_up (va_up f 95 (ai (ca 0) 200 sv1_4)) 94 (.inr (3, [.ref (ad 95), .int (nI 44)]))) 93 (ai (ca 0) 64 w1_5)) 92 (ai (ca 0) 8 e1_6)) H locs := by
          have ez : f_2 = va_up (va_up (va_up (va_up f 95 (ai (ca 0) 200 sv1_4)) 94 (.inr (3, [.ref (ad 95), .int (nI 44)]))) 93 (ai (ca 0) 64 w1_5)) 92 (ai (ca 0) 8 e1_6) := by simp only [ef_2, ef_1, up_aa, up_4]
          rw [← ez]; exact hw
        exact ih_2 sv1_4 44 w1_5 e1_6 (i + 1) _ _ _ (by omega) (by omega) (by omega) hw (lv_sub hl [1, 0] rfl)
  refine lv_iconst (v := nI 0) hx hb dX3_firstBroken_0 (by decide) ?_
  refine lv_istore_n (lv' := [(1, .int (nI 0)), (0, .ref (ad 90))]) hx hb dX3_firstBroken_1 rfl hl (by decide) rfl (fun ls hl => ?_)
  have hw : xw D vwCl N ad B s.heap (va_up (va_up (va_up (va_up f 95 (ai (ca 0) 200 sv)) 94 (.inr (3, [.ref (ad 95), .int (nI sn)]))) 93 (ai (ca 0) 64 cw)) 92 (ai (ca 0) 8 ce)) s.heap [] := by
    have ez : f = va_up (va_up (va_up (va_up f 95 (ai (ca 0) 200 sv)) 94 (.inr (3, [.ref (ad 95), .int (nI sn)]))) 93 (ai (ca 0) 64 cw)) 92 (ai (ca 0) 8 ce) := by rw [← b_95, up_same, ← b_94, up_same, ← b_93, up_same, ← b_92, up_same]
    rw [← ez]; exact hw
  exact P_2 ((rc + 1)) sv sn cw ce 0 _ _ _ (by omega) (by omega) (by omega) hw (lv_sub hl [1, 0] rfl)

set_option maxHeartbeats 4000000 in
set_option maxRecDepth 100000 in
theorem k_X3_firstBroken_some (l : Launch) (D : va_G) (ca : Nat → ClassId) (N : Nat) (ad : Nat → Nat) (B tR tK : Nat) (f : Nat → va_E) (dd : xD N ad B) (rc : Nat) (ce : Nat → Int32) (cw : Nat → Int32) (sn : Nat) (sv : Nat → Int32) (kn : Nat → Int32) (fn : Nat → Int32) (dn : Nat → Int32) (M : Nat → Nat → Int32) (b : Nat) (c_90 : f 90 = .inr (4, [.ref (ad 91), .ref (ad 94), .ref (ad 96), .ref (ad 97), .ref (ad 98), .ref (ad 99), .int (nI rc)])) (c_91 : f 91 = .inr (2, [.ref (ad 92), .ref (ad 93)])) (c_92 : f 92 = ai (ca 0) 8 ce) (c_93 : f 93 = ai (ca 0) 64 cw) (c_94 : f 94 = .inr (3, [.ref (ad 95), .int (nI sn)])) (c_95 : f 95 = ai (ca 0) 200 sv) (c_96 : f 96 = ai (ca 0) 200 kn) (c_97 : f 97 = ai (ca 0) 200 fn) (c_98 : f 98 = ai (ca 0) 200 dn) (c_99 : f 99 = aq (ca 4) 200 (fun i => some (ad (100 + i)))) (F_M : ∀ i, i < 200 → f (100 + i) = ai (ca 0) 8 (M i)) (hN : 302 ≤ N) (hrc : rc ≤ 200) (hsn : sn ≤ 200) (hb9 : b < rc) (hall : ∀ i, i < b → ∀ j, j < 8 → M i j = rowD (prevD M i) (kn i) (fn i) (dn i) j) (hbad : ∃ j, j < 8 ∧ M b j ≠ rowD (prevD M b) (kn b) (fn b) (dn b) j) : xMi l yX3_firstBroken wsX3_firstBroken rmX3_firstBroken [.ref (ad 90)] D ca N ad B tR tK f (fun r u => ∃ s1 : Nat → Int32, ∃ n1 : Nat, ∃ w1 : Nat → Int32, ∃ e1 : Nat → Int32, n1 ≤ 200 ∧ nI b = r ∧ u = va_up (va_up (va_up (va_up f 95 (ai (ca 0) 200 s1)) 94 (.inr (3, [.ref (ad 95), .int (nI n1)]))) 93 (ai (ca 0) 64 w1)) 92 (ai (ca 0) 8 e1)) := by
  refine x_open (cc := cX3_firstBroken) (maxL := 2) (ret := (some .int)) (by decide) rfl (Nat.le_of_ble_eq_true rfl) ?_
  intro p e s m below meth c ls hx hb hml hown hts hr hlocks hnm hB hK hE hw hl
  have hown : s.vm.findClass RX3 = some m.cls := hown
  have hl : lv_has ls 2 [(0, .ref (ad 90))] := hl
  have hin_4 : ∀ w ∈ u_ws RX3 TX3 7, w ∈ wsX3_firstBroken := by decide +kernel
  have hf_40 := hts (.fieldLink RX3 40 "FixityRows$RowChain" "count" "I") (by decide +kernel)
  have hf_12 := hts (.fieldLink RX3 12 "FixityRows$RowChain" "longDigest" "LFixityRows$LongDigest;") (by decide +kernel)
  have hf_37 := hts (.fieldLink RX3 37 "FixityRows$RowChain" "digests" "[[I") (by decide +kernel)
  have b_90 := c_90
  have b_91 := c_91
  have b_92 := c_92
  have b_93 := c_93
  have b_94 := c_94
  have b_95 := c_95
  have b_96 := c_96
  have b_97 := c_97
  have b_98 := c_98
  have b_99 := c_99
  have P_2 : ∀ (n_2 : Nat) (s1 : Nat → Int32) (n1 : Nat) (w1 : Nat → Int32) (e1 : Nat → Int32) (i : Nat) (H : Heap) (locs : List Loc) (ls : Array Slot), rc + 1 ≤ i + n_2 → (i ≤ b) → (n1 ≤ 200) → xw D vwCl N ad B s.heap (va_up (va_up (va_up (va_up f 95 (ai (ca 0) 200 s1)) 94 (.inr (3, [.ref (ad 95), .int (nI n1)]))) 93 (ai (ca 0) 64 w1)) 92 (ai (ca 0) 8 e1)) H locs → lv_has ls 2 [(0, .ref (ad 90)), (1, .int (nI i))] → W p l e rmX3_firstBroken s m ([.ref (ad 90)] : List Value).toArray below meth c H locs 0 0 (MQ below (xQi (fun r u => ∃ s1 : Nat → Int32, ∃ n1 : Nat, ∃ w1 : Nat → Int32, ∃ e1 : Nat → Int32, n1 ≤ 200 ∧ nI b = r ∧ u = va_up (va_up (va_up (va_up f 95 (ai (ca 0) 200 s1)) 94 (.inr (3, [.ref (ad 95), .int (nI n1)]))) 93 (ai (ca 0) 64 w1)) 92 (ai (ca 0) 8 e1)) D N ad B) ([.ref (ad 90)] : List Value).toArray s 0 0 (xA B)) (F0 m 2 ls []) := by
    intro n_2
    induction n_2 with
    | zero =>
      intro s1 n1 w1 e1 i H locs ls hm_2 hi hn1 hw hl
      exact absurd hm_2 (by omega)
    | succ n_2 ih_2 =>
      intro s1 n1 w1 e1 i H locs ls hm_2 hi hn1 hw hl
      have c_90 := b_90
      have c_91 := b_91
      have c_92 := b_92
      have c_93 := b_93
      have c_94 := b_94
      have c_95 := b_95
      have c_96 := b_96
      have c_97 := b_97
      have c_98 := b_98
      have c_99 := b_99
      obtain ⟨f_1, ef_1⟩ : ∃ z, z = va_up (va_up (va_up (va_up f 95 (ai (ca 0) 200 s1)) 94 (.inr (3, [.ref (ad 95), .int (nI n1)]))) 93 (ai (ca 0) 64 w1)) 92 (ai (ca 0) 8 e1) := ⟨_, rfl⟩
      have hw : xw D vwCl N ad B s.heap f_1 H locs := by rw [ef_1]; exact hw
      have c_95 : f_1 95 = ai (ca 0) 200 s1 := by rw [ef_1, va_up_ne _ _ (by decide), va_up_ne _ _ (by decide), va_up_ne _ _ (by decide), va_up_self]
      have c_94 : f_1 94 = .inr (3, [.ref (ad 95), .int (nI n1)]) := by rw [ef_1, va_up_ne _ _ (by decide), va_up_ne _ _ (by decide), va_up_self]
      have c_93 : f_1 93 = ai (ca 0) 64 w1 := by rw [ef_1, va_up_ne _ _ (by decide), va_up_self]
      have c_92 : f_1 92 = ai (ca 0) 8 e1 := by rw [ef_1, va_up_self]
      refine lv_iload_n hx hb dX3_firstBroken_2 rfl (lv_at hl 1 rfl) ?_
      refine lv_aload_n hx hb dX3_firstBroken_3 rfl (lv_at hl 0 rfl) ?_
      have c_90 : f_1 90 = .inr (4, [.ref (ad 91), .ref (ad 94), .ref (ad 96), .ref (ad 97), .ref (ad 98), .ref (ad 99), .int (nI rc)]) := by rw [ef_1, va_up_ne _ _ (by decide), va_up_ne _ _ (by decide), va_up_ne _ _ (by decide), va_up_ne _ _ (by decide)]; exact c_90
      refine x_get (ci := 4) (C := RX3) (T := TX3) (n := 7) (ref := RX3) hx hb hts hin_4 hown hK hw 90 (by omega) c_90 rfl 6 (by decide) hf_40 (fun _ h => h) rfl dX3_firstBroken_4 ?_
      refine n_icge (tgt := 39) hx hb dX3_firstBroken_7 (by decide) (by omega) (by omega) (fun c_7 => ?_) (fun c_7 => ?_)
      · omega
      · refine lv_aload_n hx hb dX3_firstBroken_10 rfl (lv_at hl 0 rfl) ?_
        refine lv_iload_n hx hb dX3_firstBroken_11 rfl (lv_at hl 1 rfl) ?_
        have c_91 : f_1 91 = .inr (2, [.ref (ad 92), .ref (ad 93)]) := by rw [ef_1, va_up_ne _ _ (by decide), va_up_ne _ _ (by decide), va_up_ne _ _ (by decide), va_up_ne _ _ (by decide)]; exact c_91
        have c_96 : f_1 96 = ai (ca 0) 200 kn := by rw [ef_1, va_up_ne _ _ (by decide), va_up_ne _ _ (by decide), va_up_ne _ _ (by decide), va_up_ne _ _ (by decide)]; exact c_96
        have c_97 : f_1 97 = ai (ca 0) 200 fn := by rw [ef_1, va_up_ne _ _ (by decide), va_up_ne _ _ (by decide), va_up_ne _ _ (by decide), va_up_ne _ _ (by decide)]; exact c_97
        have c_98 : f_1 98 = ai (ca 0) 200 dn := by rw [ef_1, va_up_ne _ _ (by decide), va_up_ne _ _ (by decide), va_up_ne _ _ (by decide), va_up_ne _ _ (by decide)]; exact c_98
        have c_99 : f_1 99 = aq (ca 4) 200 (fun i => some (ad (100 + i))) := by rw [ef_1, va_up_ne _ _ (by decide), va_up_ne _ _ (by decide), va_up_ne _ _ (by decide), va_up_ne _ _ (by decide)]; exact c_99
        refine x_Vv (q := 90) (As := [.int (nI i)]) (rest := []) ⟨hx, hb, hml, hown, hts⟩ (k_X3_computeDigestOf l D ca N ad B tR tK f_1 dd rc e1 w1 n1 s1 kn fn dn M i c_90 c_91 c_92 c_93 c_94 c_95 c_96 c_97 c_98 c_99 (fun i hi => by rw [ef_1, va_up_ne _ _ (by omega), va_up_ne _ _ (by omega), va_up_ne _ _ (by omega), va_up_ne _ _ (by omega)]; exact F_M i hi) (by omega) (by omega) (by omega) (by omega)) (cwV 1 hts gX3_firstBroken_X3_computeDigestOf rfl rfl rfl (by decide +kernel) ⟨Nat.le_of_ble_eq_true rfl, Nat.le_of_ble_eq_true rfl⟩) hK hE hB hw (by omega) c_90 rfl rfl rfl rfl hl.1 (Nat.le_of_ble_eq_true rfl) ⟨Nat.zero_le _, Nat.zero_le _⟩ dX3_firstBroken_12 (fun f_2 H locs hp hw => ?_)
        obtain ⟨sv1_4, w1_5, e1_6, hq_7, eu⟩ := hp
        have ef_2 : f_2 = va_up (va_up (va_up (va_up f_1 95 (ai (ca 0) 200 sv1_4)) 94 (.inr (3, [.ref (ad 95), .int (nI 44)]))) 93 (ai (ca 0) 64 w1_5)) 92 (ai (ca 0) 8 e1_6) := eu
        have c_95 : f_2 95 = ai (ca 0) 200 sv1_4 := by rw [ef_2, va_up_ne _ _ (by decide), va_up_ne _ _ (by decide), va_up_ne _ _ (by decide), va_up_self]
        have c_94 : f_2 94 = .inr (3, [.ref (ad 95), .int (nI 44)]) := by rw [ef_2, va_up_ne _ _ (by decide), va_up_ne _ _ (by decide), va_up_self]
        have c_93 : f_2 93 = ai (ca 0) 64 w1_5 := by rw [ef_2, va_up_ne _ _ (by decide), va_up_self]
        have c_92 : f_2 92 = ai (ca 0) 8 e1_6 := by rw [ef_2, va_up_self]
        rcases Nat.lt_or_ge i b with hlt | hge
        · refine lv_aload_n hx hb dX3_firstBroken_15 rfl (lv_at hl 0 rfl) ?_
          have c_90 : f_2 90 = .inr (4, [.ref (ad 91), .ref (ad 94), .ref (ad 96), .ref (ad 97), .ref (ad 98), .ref (ad 99), .int (nI rc)]) := by rw [ef_2, va_up_ne _ _ (by decide), va_up_ne _ _ (by decide), va_up_ne _ _ (by decide), va_up_ne _ _ (by decide)]; exact c_90
          refine x_get (ci := 4) (C := RX3) (T := TX3) (n := 7) (ref := RX3) hx hb hts hin_4 hown hK hw 90 (by omega) c_90 rfl 0 (by decide) hf_12 (fun _ h => h) rfl dX3_firstBroken_16 ?_
          refine lv_aload_n hx hb dX3_firstBroken_19 rfl (lv_at hl 0 rfl) ?_
          refine x_get (ci := 4) (C := RX3) (T := TX3) (n := 7) (ref := RX3) hx hb hts hin_4 hown hK hw 90 (by omega) c_90 rfl 5 (by decide) hf_37 (fun _ h => h) rfl dX3_firstBroken_20 ?_
          refine lv_iload_n hx hb dX3_firstBroken_23 rfl (lv_at hl 1 rfl) ?_
          have c_99 : f_2 99 = aq (ca 4) 200 (fun i => some (ad (100 + i))) := by rw [ef_2, va_up_ne _ _ (by decide), va_up_ne _ _ (by decide), va_up_ne _ _ (by decide), va_up_ne _ _ (by decide)]; exact c_99
          refine x_aaldA (j := i) (a := ad (100 + i)) hx hb hK hw 99 4 (by omega) c_99 rfl rfl (by omega) (by decide) rfl dX3_firstBroken_24 ?_
          have c_91 : f_2 91 = .inr (2, [.ref (ad 92), .ref (ad 93)]) := by rw [ef_2, va_up_ne _ _ (by decide), va_up_ne _ _ (by decide), va_up_ne _ _ (by decide), va_up_ne _ _ (by decide)]; exact c_91
          have c_100_i : f_2 (100 + i) = ai (ca 0) 8 (M i) := by rw [ef_2, va_up_ne _ _ (by omega), va_up_ne _ _ (by omega), va_up_ne _ _ (by omega), va_up_ne _ _ (by omega), ef_1, va_up_ne _ _ (by omega), va_up_ne _ _ (by omega), va_up_ne _ _ (by omega), va_up_ne _ _ (by omega)]; exact (F_M i (by omega))
          refine x_Vi (q := 91) (As := [.ref (ad (100 + i))]) (rest := []) ⟨hx, hb, hml, hown, hts⟩ (k_X1_equalTo_yes l D ca N ad B tR tK f_2 dd 91 92 93 e1_6 (100 + i) (M i) (by omega) c_91 (by omega) c_92 (by omega) c_100_i  (fun j hj => (hall i hlt j hj).trans (hq_7 j hj).symm)) (cwV 1 hts gX3_firstBroken_X1_equalTo rfl rfl rfl (by decide +kernel) ⟨Nat.le_of_ble_eq_true rfl, Nat.le_of_ble_eq_true rfl⟩) hK hE hB hw (by omega) c_91 rfl rfl rfl rfl hl.1 (Nat.le_of_ble_eq_true rfl) ⟨Nat.zero_le _, Nat.zero_le _⟩ dX3_firstBroken_25 (fun r_9 f_8 H locs hp hw => ?_)
          obtain ⟨er, eu⟩ := hp
          rw [← er]
          rw [← eu] at hw
          refine lv_if_ne (tgt := 33) hx hb dX3_firstBroken_28 (by decide) (fun _ => ?_) (fun h => absurd h (by decide))
          refine lv_iinc (v := nI (i + 1)) (lv' := [(1, .int (nI (i + 1))), (0, .ref (ad 90))]) hx hb dX3_firstBroken_33 hl (k := 1) rfl (by rw [show Int32.ofInt 1 = nI 1 from rfl]; exact nI_add _ _) (by decide) rfl (fun ls hl => ?_)
          refine lv_goto (tgt := 2) hx hb dX3_firstBroken_36 (by decide) ?_
          have hw : xw D vwCl N ad B s.heap (va_up (va_up (va_up (va_up f 95 (ai (ca 0) 200 sv1_4)) 94 (.inr (3, [.ref (ad 95), .int (nI 44)]))) 93 (ai (ca 0) 64 w1_5)) 92 (ai (ca 0) 8 e1_6)) H locs := by
            have ez : f_2 = va_up (va_up (va_up (va_up f 95 (ai (ca 0) 200 sv1_4)) 94 (.inr (3, [.ref (ad 95), .int (nI 44)]))) 93 (ai (ca 0) 64 w1_5)) 92 (ai (ca 0) 8 e1_6) := by simp only [ef_2, ef_1, up_aa, up_4]
            rw [← ez]; exact hw
          exact ih_2 sv1_4 44 w1_5 e1_6 (i + 1) _ _ _ (by omega) (by omega) (by omega) hw (lv_sub hl [1, 0] rfl)
        · refine lv_aload_n hx hb dX3_firstBroken_15 rfl (lv_at hl 0 rfl) ?_
          have c_90 : f_2 90 = .inr (4, [.ref (ad 91), .ref (ad 94), .ref (ad 96), .ref (ad 97), .ref (ad 98), .ref (ad 99), .int (nI rc)]) := by rw [ef_2, va_up_ne _ _ (by decide), va_up_ne _ _ (by decide), va_up_ne _ _ (by decide), va_up_ne _ _ (by decide)]; exact c_90
          refine x_get (ci := 4) (C := RX3) (T := TX3) (n := 7) (ref := RX3) hx hb hts hin_4 hown hK hw 90 (by omega) c_90 rfl 0 (by decide) hf_12 (fun _ h => h) rfl dX3_firstBroken_16 ?_
          refine lv_aload_n hx hb dX3_firstBroken_19 rfl (lv_at hl 0 rfl) ?_
          refine x_get (ci := 4) (C := RX3) (T := TX3) (n := 7) (ref := RX3) hx hb hts hin_4 hown hK hw 90 (by omega) c_90 rfl 5 (by decide) hf_37 (fun _ h => h) rfl dX3_firstBroken_20 ?_
          refine lv_iload_n hx hb dX3_firstBroken_23 rfl (lv_at hl 1 rfl) ?_
          have c_99 : f_2 99 = aq (ca 4) 200 (fun i => some (ad (100 + i))) := by rw [ef_2, va_up_ne _ _ (by decide), va_up_ne _ _ (by decide), va_up_ne _ _ (by decide), va_up_ne _ _ (by decide)]; exact c_99
          refine x_aaldA (j := i) (a := ad (100 + i)) hx hb hK hw 99 4 (by omega) c_99 rfl rfl (by omega) (by decide) rfl dX3_firstBroken_24 ?_
          have c_91 : f_2 91 = .inr (2, [.ref (ad 92), .ref (ad 93)]) := by rw [ef_2, va_up_ne _ _ (by decide), va_up_ne _ _ (by decide), va_up_ne _ _ (by decide), va_up_ne _ _ (by decide)]; exact c_91
          have c_100_i : f_2 (100 + i) = ai (ca 0) 8 (M i) := by rw [ef_2, va_up_ne _ _ (by omega), va_up_ne _ _ (by omega), va_up_ne _ _ (by omega), va_up_ne _ _ (by omega), ef_1, va_up_ne _ _ (by omega), va_up_ne _ _ (by omega), va_up_ne _ _ (by omega), va_up_ne _ _ (by omega)]; exact (F_M i (by omega))
          refine x_Vi (q := 91) (As := [.ref (ad (100 + i))]) (rest := []) ⟨hx, hb, hml, hown, hts⟩ (k_X1_equalTo_no l D ca N ad B tR tK f_2 dd 91 92 93 e1_6 (100 + i) (M i) (by omega) c_91 (by omega) c_92 (by omega) c_100_i  (by have ei : i = b := (by omega); rw [ei]; obtain ⟨j, h1, h2⟩ := hbad; exact ⟨j, h1, fun z => h2 (by rw [z, hq_7 j h1, ei])⟩)) (cwV 1 hts gX3_firstBroken_X1_equalTo rfl rfl rfl (by decide +kernel) ⟨Nat.le_of_ble_eq_true rfl, Nat.le_of_ble_eq_true rfl⟩) hK hE hB hw (by omega) c_91 rfl rfl rfl rfl hl.1 (Nat.le_of_ble_eq_true rfl) ⟨Nat.zero_le _, Nat.zero_le _⟩ dX3_firstBroken_25 (fun r_11 f_10 H locs hp hw => ?_)
          obtain ⟨er, eu⟩ := hp
          rw [← er]
          rw [← eu] at hw
          refine lv_if_ne (tgt := 33) hx hb dX3_firstBroken_28 (by decide) (fun h => False.elim (h (by decide))) (fun _ => ?_)
          refine lv_iload_n hx hb dX3_firstBroken_31 rfl (lv_at hl 1 rfl) ?_
          exact x_iret hx hb hr hlocks hw ⟨sv1_4, 44, w1_5, e1_6, (by decide), (by have ei : i = b := (by omega); rw [ei]), (by simp only [ef_2, ef_1, up_4])⟩ dX3_firstBroken_32
  refine lv_iconst (v := nI 0) hx hb dX3_firstBroken_0 (by decide) ?_
  refine lv_istore_n (lv' := [(1, .int (nI 0)), (0, .ref (ad 90))]) hx hb dX3_firstBroken_1 rfl hl (by decide) rfl (fun ls hl => ?_)
  have hw : xw D vwCl N ad B s.heap (va_up (va_up (va_up (va_up f 95 (ai (ca 0) 200 sv)) 94 (.inr (3, [.ref (ad 95), .int (nI sn)]))) 93 (ai (ca 0) 64 cw)) 92 (ai (ca 0) 8 ce)) s.heap [] := by
    have ez : f = va_up (va_up (va_up (va_up f 95 (ai (ca 0) 200 sv)) 94 (.inr (3, [.ref (ad 95), .int (nI sn)]))) 93 (ai (ca 0) 64 cw)) 92 (ai (ca 0) 8 ce) := by rw [← b_95, up_same, ← b_94, up_same, ← b_93, up_same, ← b_92, up_same]
    rw [← ez]; exact hw
  exact P_2 ((rc + 1)) sv sn cw ce 0 _ _ _ (by omega) (by omega) (by omega) hw (lv_sub hl [1, 0] rfl)
end
section
/-! ===== the rows of the digests all at once ===== -/
def vrow (ca : Nat → ClassId) (f : Nat → va_E) (M : Nat → Nat → Int32) : Nat → va_E := fun y => if 100 ≤ y ∧ y < 300 then ai (ca 0) 8 (M (y - 100)) else f y
theorem vrow_ne (ca : Nat → ClassId) (f : Nat → va_E) (M : Nat → Nat → Int32) {y : Nat} (h : y < 100 ∨ 300 ≤ y) : vrow ca f M y = f y := if_neg (by omega)
theorem vrow_at (ca : Nat → ClassId) (f : Nat → va_E) (M : Nat → Nat → Int32) {i : Nat} (h : i < 200) : vrow ca f M (100 + i) = ai (ca 0) 8 (M i) := by
  unfold vrow
  rw [if_pos (by omega), Nat.add_sub_cancel_left]
theorem vrow_set (ca : Nat → ClassId) (f : Nat → va_E) (M : Nat → Nat → Int32) (r : Nat → Int32) {k : Nat} (h : k < 200) : va_up (vrow ca f M) (100 + k) (ai (ca 0) 8 r) = vrow ca f (va_up M k r) := by
  funext y
  by_cases e : y = 100 + k
  · subst e
    rw [va_up_self, vrow_at _ _ _ h, va_up_self]
  · rw [va_up_ne _ _ e]
    unfold vrow
    by_cases h1 : 100 ≤ y ∧ y < 300
    · rw [if_pos h1, if_pos h1, va_up_ne _ _ (by omega)]
    · rw [if_neg h1, if_neg h1]
theorem vrow_set3 (ca : Nat → ClassId) (f : Nat → va_E) (M : Nat → Nat → Int32) (r : Nat → Int32) (a b c : va_E) {k : Nat} (h : k < 200) : va_up (va_up (va_up (va_up (vrow ca f M) 96 a) 97 b) 98 c) (100 + k) (ai (ca 0) 8 r) = va_up (va_up (va_up (vrow ca f (va_up M k r)) 96 a) 97 b) 98 c := by
  rw [up_swap (a := 98) _ _ _ (by omega), up_swap (a := 97) _ _ _ (by omega), up_swap (a := 96) _ _ _ (by omega), vrow_set _ _ _ _ h]
theorem vrow_id (ca : Nat → ClassId) (f : Nat → va_E) (M : Nat → Nat → Int32) (h : ∀ i, i < 200 → f (100 + i) = ai (ca 0) 8 (M i)) : vrow ca f M = f := by
  funext y
  unfold vrow
  by_cases h1 : 100 ≤ y ∧ y < 300
  · rw [if_pos h1, ← h (y - 100) (by omega), show 100 + (y - 100) = y by omega]
  · rw [if_neg h1]
theorem up_3 (f : Nat → va_E) (a b c a' b' c' : va_E) : va_up (va_up (va_up (va_up (va_up (va_up f 96 a) 97 b) 98 c) 96 a') 97 b') 98 c' = va_up (va_up (va_up f 96 a') 97 b') 98 c' := by
  funext j
  simp only [va_up]
  by_cases h1 : j = 98
  · simp [h1]
  · by_cases h2 : j = 97
    · simp [h2]
    · by_cases h3 : j = 96
      · simp [h3]
      · simp [h1, h2, h3]
/-- those behind i come forward, as far as k -/
def shl (g : Nat → Int32) (i k : Nat) : Nat → Int32 := fun x => if i ≤ x ∧ x < k then g (x + 1) else g x
def mrem (M : Nat → Nat → Int32) (i k : Nat) : Nat → Nat → Int32 := fun x => if i ≤ x ∧ x < k then cpyTo (M x) (M (x + 1)) 8 else M x
theorem shl_step (g : Nat → Int32) (i k : Nat) (h : i ≤ k) : upd (shl g i k) k (shl g i k (k + 1)) = shl g i (k + 1) := by
  funext x
  by_cases e : x = k
  · subst e
    rw [pk_us]
    unfold shl
    rw [if_neg (by omega), if_pos (by omega)]
  · rw [pk_un e]
    unfold shl
    by_cases h1 : i ≤ x ∧ x < k
    · rw [if_pos h1, if_pos (by omega)]
    · rw [if_neg h1, if_neg (by omega)]
theorem shl_0 (g : Nat → Int32) (i : Nat) : shl g i i = g := by
  funext x
  exact if_neg (by omega)
theorem mrem_0 (M : Nat → Nat → Int32) (i : Nat) : mrem M i i = M := by
  funext x
  exact if_neg (by omega)
theorem mrem_out {M : Nat → Nat → Int32} {i k x : Nat} (h : k ≤ x) : mrem M i k x = M x := if_neg (by omega)
theorem mrem_step (M : Nat → Nat → Int32) (i k : Nat) (h : i ≤ k) : va_up (mrem M i k) k (cpyTo (M k) (M (k + 1)) 8) = mrem M i (k + 1) := by
  funext x
  by_cases e : x = k
  · subst e
    rw [va_up_self]
    exact (if_pos (by omega)).symm
  · rw [va_up_ne _ _ e]
    unfold mrem
    by_cases h1 : i ≤ x ∧ x < k
    · rw [if_pos h1, if_pos (by omega)]
    · rw [if_neg h1, if_neg (by omega)]
theorem mrem_same (M : Nat → Nat → Int32) (i k : Nat) : va_up (mrem M i k) k (cpyTo (M k) (M (k + 1)) 0) = mrem M i k := by
  rw [cp_0, ← mrem_out (M := M) (i := i) (Nat.le_refl k), up_same]

abbrev rmX3_remove : Room := { frames := 1, cells := 0, slots := 0, locals := 21 }

set_option maxHeartbeats 4000000 in
set_option maxRecDepth 100000 in
theorem k_X3_remove_in (l : Launch) (D : va_G) (ca : Nat → ClassId) (N : Nat) (ad : Nat → Nat) (B tR tK : Nat) (f : Nat → va_E) (dd : xD N ad B) (rc : Nat) (kn : Nat → Int32) (fn : Nat → Int32) (dn : Nat → Int32) (M : Nat → Nat → Int32) (i : Nat) (c_90 : f 90 = .inr (4, [.ref (ad 91), .ref (ad 94), .ref (ad 96), .ref (ad 97), .ref (ad 98), .ref (ad 99), .int (nI rc)])) (c_96 : f 96 = ai (ca 0) 200 kn) (c_97 : f 97 = ai (ca 0) 200 fn) (c_98 : f 98 = ai (ca 0) 200 dn) (c_99 : f 99 = aq (ca 4) 200 (fun i => some (ad (100 + i)))) (F_M : ∀ i, i < 200 → f (100 + i) = ai (ca 0) 8 (M i)) (hN : 302 ≤ N) (hi : i < rc) (hrc : rc ≤ 200) : xMv l yX3_remove wsX3_remove rmX3_remove [.ref (ad 90), .int (nI i)] D ca N ad B tR tK f (fun u => u = va_up (va_up (va_up (va_up (vrow ca f (mrem M i (rc - 1))) 96 (ai (ca 0) 200 (shl kn i (rc - 1)))) 97 (ai (ca 0) 200 (shl fn i (rc - 1)))) 98 (ai (ca 0) 200 (shl dn i (rc - 1)))) 90 (.inr (4, [.ref (ad 91), .ref (ad 94), .ref (ad 96), .ref (ad 97), .ref (ad 98), .ref (ad 99), .int (nI (rc - 1))]))) := by
  refine x_open (cc := cX3_remove) (maxL := 4) (ret := none) (by decide) rfl (Nat.le_of_ble_eq_true rfl) ?_
  intro p e s m below meth c ls hx hb hml hown hts hr hlocks hnm hB hK hE hw hl
  have hown : s.vm.findClass RX3 = some m.cls := hown
  have hl : lv_has ls 4 [(0, .ref (ad 90)), (1, .int (nI i))] := hl
  have hin_4 : ∀ w ∈ u_ws RX3 TX3 7, w ∈ wsX3_remove := by decide +kernel
  have hf_37 := hts (.fieldLink RX3 37 "FixityRows$RowChain" "digests" "[[I") (by decide +kernel)
  have hf_40 := hts (.fieldLink RX3 40 "FixityRows$RowChain" "count" "I") (by decide +kernel)
  have hf_25 := hts (.fieldLink RX3 25 "FixityRows$RowChain" "kinds" "[I") (by decide +kernel)
  have hf_29 := hts (.fieldLink RX3 29 "FixityRows$RowChain" "fileNumbers" "[I") (by decide +kernel)
  have hf_32 := hts (.fieldLink RX3 32 "FixityRows$RowChain" "days" "[I") (by decide +kernel)
  have b_90 := c_90
  have b_96 := c_96
  have b_97 := c_97
  have b_98 := c_98
  have b_99 := c_99
  have P_11 : ∀ (n_11 : Nat) (k : Nat) (H : Heap) (locs : List Loc) (ls : Array Slot), (rc - 1) + 1 ≤ k + n_11 → (i ≤ k) → (k ≤ rc - 1) → xw D vwCl N ad B s.heap (va_up (va_up (va_up (vrow ca f (mrem M i k)) 96 (ai (ca 0) 200 (shl kn i k))) 97 (ai (ca 0) 200 (shl fn i k))) 98 (ai (ca 0) 200 (shl dn i k))) H locs → lv_has ls 4 [(0, .ref (ad 90)), (1, .int (nI i)), (2, .int (nI k))] → W p l e rmX3_remove s m ([.ref (ad 90), .int (nI i)] : List Value).toArray below meth c H locs 0 0 (MQ below (xQv (fun u => u = va_up (va_up (va_up (va_up (vrow ca f (mrem M i (rc - 1))) 96 (ai (ca 0) 200 (shl kn i (rc - 1)))) 97 (ai (ca 0) 200 (shl fn i (rc - 1)))) 98 (ai (ca 0) 200 (shl dn i (rc - 1)))) 90 (.inr (4, [.ref (ad 91), .ref (ad 94), .ref (ad 96), .ref (ad 97), .ref (ad 98), .ref (ad 99), .int (nI (rc - 1))]))) D N ad B) ([.ref (ad 90), .int (nI i)] : List Value).toArray s 0 0 (xA B)) (F0 m 11 ls []) := by
    intro n_11
    induction n_11 with
    | zero =>
      intro k H locs ls hm_11 hk1 hk0 hw hl
      exact absurd hm_11 (by omega)
    | succ n_11 ih_11 =>
      intro k H locs ls hm_11 hk1 hk0 hw hl
      have P_65 : ∀ (n_65 : Nat) (k : Nat) (j : Nat) (H : Heap) (locs : List Loc) (ls : Array Slot), 8 + 1 ≤ j + n_65 → (i ≤ k) → (k < rc - 1) → ((rc - 1) + 1 ≤ k + (n_11 + 1)) → (j ≤ 8) → xw D vwCl N ad B s.heap (va_up (va_up (va_up (vrow ca f (va_up (mrem M i k) k (cpyTo (M k) (M (k + 1)) j))) 96 (ai (ca 0) 200 (shl kn i (k + 1)))) 97 (ai (ca 0) 200 (shl fn i (k + 1)))) 98 (ai (ca 0) 200 (shl dn i (k + 1)))) H locs → lv_has ls 4 [(0, .ref (ad 90)), (1, .int (nI i)), (2, .int (nI k)), (3, .int (nI j))] → W p l e rmX3_remove s m ([.ref (ad 90), .int (nI i)] : List Value).toArray below meth c H locs 0 0 (MQ below (xQv (fun u => u = va_up (va_up (va_up (va_up (vrow ca f (mrem M i (rc - 1))) 96 (ai (ca 0) 200 (shl kn i (rc - 1)))) 97 (ai (ca 0) 200 (shl fn i (rc - 1)))) 98 (ai (ca 0) 200 (shl dn i (rc - 1)))) 90 (.inr (4, [.ref (ad 91), .ref (ad 94), .ref (ad 96), .ref (ad 97), .ref (ad 98), .ref (ad 99), .int (nI (rc - 1))]))) D N ad B) ([.ref (ad 90), .int (nI i)] : List Value).toArray s 0 0 (xA B)) (F0 m 65 ls []) := by
        intro n_65
        induction n_65 with
        | zero =>
          intro k j H locs ls hm_65 hk1 hk2 hu hj hw hl
          exact absurd hm_65 (by omega)
        | succ n_65 ih_65 =>
          intro k j H locs ls hm_65 hk1 hk2 hu hj hw hl
          have c_90 := b_90
          have c_96 := b_96
          have c_97 := b_97
          have c_98 := b_98
          have c_99 := b_99
          obtain ⟨f_1, ef_1⟩ : ∃ z, z = va_up (va_up (va_up (vrow ca f (va_up (mrem M i k) k (cpyTo (M k) (M (k + 1)) j))) 96 (ai (ca 0) 200 (shl kn i (k + 1)))) 97 (ai (ca 0) 200 (shl fn i (k + 1)))) 98 (ai (ca 0) 200 (shl dn i (k + 1))) := ⟨_, rfl⟩
          have hw : xw D vwCl N ad B s.heap f_1 H locs := by rw [ef_1]; exact hw
          have c_96 : f_1 96 = ai (ca 0) 200 (shl kn i (k + 1)) := by rw [ef_1, va_up_ne _ _ (by decide), va_up_ne _ _ (by decide), va_up_self]
          have c_97 : f_1 97 = ai (ca 0) 200 (shl fn i (k + 1)) := by rw [ef_1, va_up_ne _ _ (by decide), va_up_self]
          have c_98 : f_1 98 = ai (ca 0) 200 (shl dn i (k + 1)) := by rw [ef_1, va_up_self]
          refine lv_iload_n hx hb dX3_remove_65 rfl (lv_at hl 3 rfl) ?_
          refine lv_bipush (v := nI 8) hx hb dX3_remove_66 (by decide) ?_
          refine n_icge (tgt := 95) hx hb dX3_remove_68 (by decide) (by omega) (by omega) (fun c_68 => ?_) (fun c_68 => ?_)
          · refine lv_iinc (v := nI (k + 1)) (lv' := [(2, .int (nI (k + 1))), (0, .ref (ad 90)), (1, .int (nI i)), (3, .int (nI j))]) hx hb dX3_remove_95 hl (k := 2) rfl (by rw [show Int32.ofInt 1 = nI 1 from rfl]; exact nI_add _ _) (by decide) rfl (fun ls hl => ?_)
            refine lv_goto (tgt := 11) hx hb dX3_remove_98 (by decide) ?_
            have hw : xw D vwCl N ad B s.heap (va_up (va_up (va_up (vrow ca f (mrem M i (k + 1))) 96 (ai (ca 0) 200 (shl kn i (k + 1)))) 97 (ai (ca 0) 200 (shl fn i (k + 1)))) 98 (ai (ca 0) 200 (shl dn i (k + 1)))) H locs := by
              have ez : f_1 = va_up (va_up (va_up (vrow ca f (mrem M i (k + 1))) 96 (ai (ca 0) 200 (shl kn i (k + 1)))) 97 (ai (ca 0) 200 (shl fn i (k + 1)))) 98 (ai (ca 0) 200 (shl dn i (k + 1))) := by have ej : j = 8 := (by omega); subst ej; simp only [ef_1, mrem_step M i k hk1]
              rw [← ez]; exact hw
            exact ih_11 (k + 1) _ _ _ (by omega) (by omega) (by omega) hw (lv_sub hl [1, 2, 0] rfl)
          · refine lv_aload_n hx hb dX3_remove_71 rfl (lv_at hl 0 rfl) ?_
            have c_90 : f_1 90 = .inr (4, [.ref (ad 91), .ref (ad 94), .ref (ad 96), .ref (ad 97), .ref (ad 98), .ref (ad 99), .int (nI rc)]) := by rw [ef_1, va_up_ne _ _ (by decide), va_up_ne _ _ (by decide), va_up_ne _ _ (by decide), vrow_ne _ _ _ (by omega)]; exact c_90
            refine x_get (ci := 4) (C := RX3) (T := TX3) (n := 7) (ref := RX3) hx hb hts hin_4 hown hK hw 90 (by omega) c_90 rfl 5 (by decide) hf_37 (fun _ h => h) rfl dX3_remove_72 ?_
            refine lv_iload_n hx hb dX3_remove_75 rfl (lv_at hl 2 rfl) ?_
            have c_99 : f_1 99 = aq (ca 4) 200 (fun i => some (ad (100 + i))) := by rw [ef_1, va_up_ne _ _ (by decide), va_up_ne _ _ (by decide), va_up_ne _ _ (by decide), vrow_ne _ _ _ (by omega)]; exact c_99
            refine x_aaldA (j := k) (a := ad (100 + k)) hx hb hK hw 99 4 (by omega) c_99 rfl rfl (by omega) (by decide) rfl dX3_remove_76 ?_
            refine lv_iload_n hx hb dX3_remove_77 rfl (lv_at hl 3 rfl) ?_
            refine lv_aload_n hx hb dX3_remove_78 rfl (lv_at hl 0 rfl) ?_
            refine x_get (ci := 4) (C := RX3) (T := TX3) (n := 7) (ref := RX3) hx hb hts hin_4 hown hK hw 90 (by omega) c_90 rfl 5 (by decide) hf_37 (fun _ h => h) rfl dX3_remove_79 ?_
            refine lv_iload_n hx hb dX3_remove_82 rfl (lv_at hl 2 rfl) ?_
            refine lv_iconst (v := nI 1) hx hb dX3_remove_83 (by decide) ?_
            refine n_iadd hx hb dX3_remove_84 ?_
            refine x_aaldA (j := k + 1) (a := ad (100 + (k + 1))) hx hb hK hw 99 4 (by omega) c_99 rfl rfl (by omega) (by decide) rfl dX3_remove_85 ?_
            refine lv_iload_n hx hb dX3_remove_86 rfl (lv_at hl 3 rfl) ?_
            have c_100_k_1 : f_1 (100 + (k + 1)) = ai (ca 0) 8 ((va_up (mrem M i k) k (cpyTo (M k) (M (k + 1)) j)) (k + 1)) := by rw [ef_1, va_up_ne _ _ (by omega), va_up_ne _ _ (by omega), va_up_ne _ _ (by omega)]; exact (vrow_at _ _ _ (by omega))
            have c_100_k_1 : f_1 (100 + (k + 1)) = ai (ca 0) 8 (M (k + 1)) := by rw [c_100_k_1]; rw [va_up_ne _ _ (by omega), mrem_out (by omega)]
            refine x_iald (j := j) hx hb hK hw (100 + (k + 1)) 0 (by omega) c_100_k_1 rfl rfl (by omega) (by decide) dX3_remove_87 ?_
            refine lv_topi (fun x_2 ex_2 => ?_)
            have c_100_k : f_1 (100 + k) = ai (ca 0) 8 ((va_up (mrem M i k) k (cpyTo (M k) (M (k + 1)) j)) k) := by rw [ef_1, va_up_ne _ _ (by omega), va_up_ne _ _ (by omega), va_up_ne _ _ (by omega)]; exact (vrow_at _ _ _ (by omega))
            have c_100_k : f_1 (100 + k) = ai (ca 0) 8 (cpyTo (M k) (M (k + 1)) j) := by rw [c_100_k]; rw [va_up_self]
            refine x_iast (j := j) hx hb hK dd hw (100 + k) 0 (by omega) c_100_k rfl rfl (by omega) (by decide) dX3_remove_88 (fun H locs hw => ?_)
            obtain ⟨f_3, ef_3⟩ : ∃ z, z = va_up f_1 (100 + k) (ai (ca 0) 8 (upd (cpyTo (M k) (M (k + 1)) j) j x_2)) := ⟨_, rfl⟩
            have hw : xw D vwCl N ad B s.heap f_3 H locs := by rw [ef_3]; exact hw
            have c_100_k : f_3 (100 + k) = ai (ca 0) 8 (upd (cpyTo (M k) (M (k + 1)) j) j x_2) := va_up_of ef_3
            refine lv_iinc (v := nI (j + 1)) (lv' := [(3, .int (nI (j + 1))), (0, .ref (ad 90)), (1, .int (nI i)), (2, .int (nI k))]) hx hb dX3_remove_89 hl (k := 3) rfl (by rw [show Int32.ofInt 1 = nI 1 from rfl]; exact nI_add _ _) (by decide) rfl (fun ls hl => ?_)
            refine lv_goto (tgt := 65) hx hb dX3_remove_92 (by decide) ?_
            have hw : xw D vwCl N ad B s.heap (va_up (va_up (va_up (vrow ca f (va_up (mrem M i k) k (cpyTo (M k) (M (k + 1)) (j + 1)))) 96 (ai (ca 0) 200 (shl kn i (k + 1)))) 97 (ai (ca 0) 200 (shl fn i (k + 1)))) 98 (ai (ca 0) 200 (shl dn i (k + 1)))) H locs := by
              have ez : f_3 = va_up (va_up (va_up (vrow ca f (va_up (mrem M i k) k (cpyTo (M k) (M (k + 1)) (j + 1)))) 96 (ai (ca 0) 200 (shl kn i (k + 1)))) 97 (ai (ca 0) 200 (shl fn i (k + 1)))) 98 (ai (ca 0) 200 (shl dn i (k + 1))) := by simp only [ef_3, ex_2, ef_1, vrow_set3 _ _ _ _ _ _ _ (show k < 200 by omega), up_aa, cp_step]
              rw [← ez]; exact hw
            exact ih_65 k (j + 1) _ _ _ (by omega) (by omega) (by omega) (by omega) (by omega) hw (lv_sub hl [1, 2, 3, 0] rfl)
      have c_90 := b_90
      have c_96 := b_96
      have c_97 := b_97
      have c_98 := b_98
      have c_99 := b_99
      obtain ⟨f_4, ef_4⟩ : ∃ z, z = va_up (va_up (va_up (vrow ca f (mrem M i k)) 96 (ai (ca 0) 200 (shl kn i k))) 97 (ai (ca 0) 200 (shl fn i k))) 98 (ai (ca 0) 200 (shl dn i k)) := ⟨_, rfl⟩
      have hw : xw D vwCl N ad B s.heap f_4 H locs := by rw [ef_4]; exact hw
      have c_96 : f_4 96 = ai (ca 0) 200 (shl kn i k) := by rw [ef_4, va_up_ne _ _ (by decide), va_up_ne _ _ (by decide), va_up_self]
      have c_97 : f_4 97 = ai (ca 0) 200 (shl fn i k) := by rw [ef_4, va_up_ne _ _ (by decide), va_up_self]
      have c_98 : f_4 98 = ai (ca 0) 200 (shl dn i k) := by rw [ef_4, va_up_self]
      refine lv_iload_n hx hb dX3_remove_11 rfl (lv_at hl 2 rfl) ?_
      refine lv_aload_n hx hb dX3_remove_12 rfl (lv_at hl 0 rfl) ?_
      have c_90 : f_4 90 = .inr (4, [.ref (ad 91), .ref (ad 94), .ref (ad 96), .ref (ad 97), .ref (ad 98), .ref (ad 99), .int (nI rc)]) := by rw [ef_4, va_up_ne _ _ (by decide), va_up_ne _ _ (by decide), va_up_ne _ _ (by decide), vrow_ne _ _ _ (by omega)]; exact c_90
      refine x_get (ci := 4) (C := RX3) (T := TX3) (n := 7) (ref := RX3) hx hb hts hin_4 hown hK hw 90 (by omega) c_90 rfl 6 (by decide) hf_40 (fun _ h => h) rfl dX3_remove_13 ?_
      refine lv_iconst (v := nI 1) hx hb dX3_remove_16 (by decide) ?_
      refine n_isub hx hb dX3_remove_17 (by omega) ?_
      refine n_icge (tgt := 101) hx hb dX3_remove_18 (by decide) (by omega) (by omega) (fun c_18 => ?_) (fun c_18 => ?_)
      · refine lv_aload_n hx hb dX3_remove_101 rfl (lv_at hl 0 rfl) ?_
        refine lv_dup hx hb dX3_remove_102 rfl ?_
        refine x_get (ci := 4) (C := RX3) (T := TX3) (n := 7) (ref := RX3) hx hb hts hin_4 hown hK hw 90 (by omega) c_90 rfl 6 (by decide) hf_40 (fun _ h => h) rfl dX3_remove_103 ?_
        refine lv_iconst (v := nI 1) hx hb dX3_remove_106 (by decide) ?_
        refine n_isub hx hb dX3_remove_107 (by omega) ?_
        refine x_put (ci := 4) (C := RX3) (T := TX3) (n := 7) (ref := RX3) (fs' := [.ref (ad 91), .ref (ad 94), .ref (ad 96), .ref (ad 97), .ref (ad 98), .ref (ad 99), .int (nI (rc - 1))]) hx hb hts hin_4 tyX3 tyX3_ok nmX3 hown hK dd hw 90 (by omega) c_90 rfl 6 (by decide) hf_40 (fun _ h => h) rfl rfl rfl (Nat.le_of_ble_eq_true rfl) rfl dX3_remove_108 (fun H locs hw => ?_)
        obtain ⟨f_5, ef_5⟩ : ∃ z, z = va_up f_4 90 (.inr (4, [.ref (ad 91), .ref (ad 94), .ref (ad 96), .ref (ad 97), .ref (ad 98), .ref (ad 99), .int (nI (rc - 1))])) := ⟨_, rfl⟩
        have hw : xw D vwCl N ad B s.heap f_5 H locs := by rw [ef_5]; exact hw
        have c_90 : f_5 90 = .inr (4, [.ref (ad 91), .ref (ad 94), .ref (ad 96), .ref (ad 97), .ref (ad 98), .ref (ad 99), .int (nI (rc - 1))]) := va_up_of ef_5
        exact x_vret hx hb hr hlocks hw (by have ek : k = rc - 1 := (by omega); subst ek; simp only [ef_5, ef_4]) dX3_remove_111
      · refine lv_aload_n hx hb dX3_remove_21 rfl (lv_at hl 0 rfl) ?_
        refine x_get (ci := 4) (C := RX3) (T := TX3) (n := 7) (ref := RX3) hx hb hts hin_4 hown hK hw 90 (by omega) c_90 rfl 2 (by decide) hf_25 (fun _ h => h) rfl dX3_remove_22 ?_
        refine lv_iload_n hx hb dX3_remove_25 rfl (lv_at hl 2 rfl) ?_
        refine lv_aload_n hx hb dX3_remove_26 rfl (lv_at hl 0 rfl) ?_
        refine x_get (ci := 4) (C := RX3) (T := TX3) (n := 7) (ref := RX3) hx hb hts hin_4 hown hK hw 90 (by omega) c_90 rfl 2 (by decide) hf_25 (fun _ h => h) rfl dX3_remove_27 ?_
        refine lv_iload_n hx hb dX3_remove_30 rfl (lv_at hl 2 rfl) ?_
        refine lv_iconst (v := nI 1) hx hb dX3_remove_31 (by decide) ?_
        refine n_iadd hx hb dX3_remove_32 ?_
        refine x_iald (j := k + 1) hx hb hK hw 96 0 (by omega) c_96 rfl rfl (by omega) (by decide) dX3_remove_33 ?_
        refine lv_topi (fun x_6 ex_6 => ?_)
        refine x_iast (j := k) hx hb hK dd hw 96 0 (by omega) c_96 rfl rfl (by omega) (by decide) dX3_remove_34 (fun H locs hw => ?_)
        obtain ⟨f_7, ef_7⟩ : ∃ z, z = va_up f_4 96 (ai (ca 0) 200 (upd (shl kn i k) k x_6)) := ⟨_, rfl⟩
        have hw : xw D vwCl N ad B s.heap f_7 H locs := by rw [ef_7]; exact hw
        have c_96 : f_7 96 = ai (ca 0) 200 (upd (shl kn i k) k x_6) := va_up_of ef_7
        refine lv_aload_n hx hb dX3_remove_35 rfl (lv_at hl 0 rfl) ?_
        have c_90 : f_7 90 = .inr (4, [.ref (ad 91), .ref (ad 94), .ref (ad 96), .ref (ad 97), .ref (ad 98), .ref (ad 99), .int (nI rc)]) := by rw [ef_7, va_up_ne _ _ (by decide)]; exact c_90
        refine x_get (ci := 4) (C := RX3) (T := TX3) (n := 7) (ref := RX3) hx hb hts hin_4 hown hK hw 90 (by omega) c_90 rfl 3 (by decide) hf_29 (fun _ h => h) rfl dX3_remove_36 ?_
        refine lv_iload_n hx hb dX3_remove_39 rfl (lv_at hl 2 rfl) ?_
        refine lv_aload_n hx hb dX3_remove_40 rfl (lv_at hl 0 rfl) ?_
        refine x_get (ci := 4) (C := RX3) (T := TX3) (n := 7) (ref := RX3) hx hb hts hin_4 hown hK hw 90 (by omega) c_90 rfl 3 (by decide) hf_29 (fun _ h => h) rfl dX3_remove_41 ?_
        refine lv_iload_n hx hb dX3_remove_44 rfl (lv_at hl 2 rfl) ?_
        refine lv_iconst (v := nI 1) hx hb dX3_remove_45 (by decide) ?_
        refine n_iadd hx hb dX3_remove_46 ?_
        have c_97 : f_7 97 = ai (ca 0) 200 (shl fn i k) := by rw [ef_7, va_up_ne _ _ (by decide)]; exact c_97
        refine x_iald (j := k + 1) hx hb hK hw 97 0 (by omega) c_97 rfl rfl (by omega) (by decide) dX3_remove_47 ?_
        refine lv_topi (fun x_8 ex_8 => ?_)
        refine x_iast (j := k) hx hb hK dd hw 97 0 (by omega) c_97 rfl rfl (by omega) (by decide) dX3_remove_48 (fun H locs hw => ?_)
        obtain ⟨f_9, ef_9⟩ : ∃ z, z = va_up f_7 97 (ai (ca 0) 200 (upd (shl fn i k) k x_8)) := ⟨_, rfl⟩
        have hw : xw D vwCl N ad B s.heap f_9 H locs := by rw [ef_9]; exact hw
        have c_97 : f_9 97 = ai (ca 0) 200 (upd (shl fn i k) k x_8) := va_up_of ef_9
        refine lv_aload_n hx hb dX3_remove_49 rfl (lv_at hl 0 rfl) ?_
        have c_90 : f_9 90 = .inr (4, [.ref (ad 91), .ref (ad 94), .ref (ad 96), .ref (ad 97), .ref (ad 98), .ref (ad 99), .int (nI rc)]) := by rw [ef_9, va_up_ne _ _ (by decide)]; exact c_90
        refine x_get (ci := 4) (C := RX3) (T := TX3) (n := 7) (ref := RX3) hx hb hts hin_4 hown hK hw 90 (by omega) c_90 rfl 4 (by decide) hf_32 (fun _ h => h) rfl dX3_remove_50 ?_
        refine lv_iload_n hx hb dX3_remove_53 rfl (lv_at hl 2 rfl) ?_
        refine lv_aload_n hx hb dX3_remove_54 rfl (lv_at hl 0 rfl) ?_
        refine x_get (ci := 4) (C := RX3) (T := TX3) (n := 7) (ref := RX3) hx hb hts hin_4 hown hK hw 90 (by omega) c_90 rfl 4 (by decide) hf_32 (fun _ h => h) rfl dX3_remove_55 ?_
        refine lv_iload_n hx hb dX3_remove_58 rfl (lv_at hl 2 rfl) ?_
        refine lv_iconst (v := nI 1) hx hb dX3_remove_59 (by decide) ?_
        refine n_iadd hx hb dX3_remove_60 ?_
        have c_98 : f_9 98 = ai (ca 0) 200 (shl dn i k) := by rw [ef_9, va_up_ne _ _ (by decide), ef_7, va_up_ne _ _ (by decide)]; exact c_98
        refine x_iald (j := k + 1) hx hb hK hw 98 0 (by omega) c_98 rfl rfl (by omega) (by decide) dX3_remove_61 ?_
        refine lv_topi (fun x_10 ex_10 => ?_)
        refine x_iast (j := k) hx hb hK dd hw 98 0 (by omega) c_98 rfl rfl (by omega) (by decide) dX3_remove_62 (fun H locs hw => ?_)
        obtain ⟨f_11, ef_11⟩ : ∃ z, z = va_up f_9 98 (ai (ca 0) 200 (upd (shl dn i k) k x_10)) := ⟨_, rfl⟩
        have hw : xw D vwCl N ad B s.heap f_11 H locs := by rw [ef_11]; exact hw
        have c_98 : f_11 98 = ai (ca 0) 200 (upd (shl dn i k) k x_10) := va_up_of ef_11
        refine lv_iconst (v := nI 0) hx hb dX3_remove_63 (by decide) ?_
        refine lv_istore_n (lv' := [(3, .int (nI 0)), (0, .ref (ad 90)), (1, .int (nI i)), (2, .int (nI k))]) hx hb dX3_remove_64 rfl hl (by decide) rfl (fun ls hl => ?_)
        have hw : xw D vwCl N ad B s.heap (va_up (va_up (va_up (vrow ca f (va_up (mrem M i k) k (cpyTo (M k) (M (k + 1)) 0))) 96 (ai (ca 0) 200 (shl kn i (k + 1)))) 97 (ai (ca 0) 200 (shl fn i (k + 1)))) 98 (ai (ca 0) 200 (shl dn i (k + 1)))) H locs := by
          have ez : f_11 = va_up (va_up (va_up (vrow ca f (va_up (mrem M i k) k (cpyTo (M k) (M (k + 1)) 0))) 96 (ai (ca 0) 200 (shl kn i (k + 1)))) 97 (ai (ca 0) 200 (shl fn i (k + 1)))) 98 (ai (ca 0) 200 (shl dn i (k + 1))) := by rw [mrem_same]; simp only [ef_11, ex_10, ef_9, ex_8, ef_7, ex_6, ef_4, up_3, shl_step _ i k hk1]
          rw [← ez]; exact hw
        exact P_65 9 k 0 _ _ _ (by omega) (by omega) (by omega) (by omega) (by omega) hw (lv_sub hl [1, 2, 3, 0] rfl)
  refine lv_aload_n hx hb dX3_remove_0 rfl (lv_at hl 0 rfl) ?_
  refine lv_iload_n hx hb dX3_remove_1 rfl (lv_at hl 1 rfl) ?_
  refine x_Vi (q := 90) (As := [.int (nI i)]) (rest := []) ⟨hx, hb, hml, hown, hts⟩ (k_X3_has_in l D ca N ad B tR tK f dd rc i c_90  (by omega) (by omega) (by omega)) (cwV 1 hts gX3_remove_X3_has rfl rfl rfl (by decide +kernel) ⟨Nat.le_of_ble_eq_true rfl, Nat.le_of_ble_eq_true rfl⟩) hK hE hB hw (by omega) c_90 rfl rfl rfl rfl hl.1 (Nat.le_of_ble_eq_true rfl) ⟨Nat.zero_le _, Nat.zero_le _⟩ dX3_remove_2 (fun r_13 f_12 H locs hp hw => ?_)
  obtain ⟨er, eu⟩ := hp
  rw [← er]
  rw [← eu] at hw
  refine lv_if_ne (tgt := 9) hx hb dX3_remove_5 (by decide) (fun _ => ?_) (fun h => absurd h (by decide))
  refine lv_iload_n hx hb dX3_remove_9 rfl (lv_at hl 1 rfl) ?_
  refine lv_istore_n (lv' := [(2, .int (nI i)), (0, .ref (ad 90)), (1, .int (nI i))]) hx hb dX3_remove_10 rfl hl (by decide) rfl (fun ls hl => ?_)
  have hw : xw D vwCl N ad B s.heap (va_up (va_up (va_up (vrow ca f (mrem M i i)) 96 (ai (ca 0) 200 (shl kn i i))) 97 (ai (ca 0) 200 (shl fn i i))) 98 (ai (ca 0) 200 (shl dn i i))) H locs := by
    have ez : f = va_up (va_up (va_up (vrow ca f (mrem M i i)) 96 (ai (ca 0) 200 (shl kn i i))) 97 (ai (ca 0) 200 (shl fn i i))) 98 (ai (ca 0) 200 (shl dn i i)) := by rw [mrem_0, shl_0, shl_0, shl_0, vrow_id ca f M F_M, ← b_96, up_same, ← b_97, up_same, ← b_98, up_same]
    rw [← ez]; exact hw
  exact P_11 (((rc - 1) + 1)) i _ _ _ (by omega) (by omega) (by omega) hw (lv_sub hl [1, 2, 0] rfl)
end
section
set_option maxRecDepth 20000 in
theorem ggX5_init_X1_init : GoodIn wsX5_init wsX1_init := goodIn_r _ [39, 40, 2, 3, 24, 41, 42, 89, 90] (by decide +kernel) (by decide +kernel)
set_option maxRecDepth 20000 in
theorem gX5_init_X1_init_n24 : GoodIn wsX5_init (wsX1_init) := ggX5_init_X1_init
set_option maxRecDepth 20000 in
theorem ggX5_init_X4_init : GoodIn wsX5_init wsX4_init := goodIn_r _ [45, 46, 2, 3, 24, 47, 48, 49, 18, 50, 51, 91] (by decide +kernel) (by decide +kernel)
set_option maxRecDepth 20000 in
theorem gX5_init_X4_init : GoodIn wsX5_init (wsX4_init) := ggX5_init_X4_init
set_option maxRecDepth 20000 in
theorem ggX5_init_X2_init : GoodIn wsX5_init wsX2_init := goodIn_r _ [53, 54, 2, 3, 24, 55, 92, 93] (by decide +kernel) (by decide +kernel)
set_option maxRecDepth 20000 in
theorem gX5_init_X2_init_n38 : GoodIn wsX5_init (wsX2_init) := ggX5_init_X2_init
set_option maxRecDepth 20000 in
theorem ggX5_init_X0_init : GoodIn wsX5_init wsX0_init := goodIn_r _ [57, 58, 2, 3, 59, 21, 22, 60, 24, 61, 62, 63, 52, 53, 54, 55, 92, 93, 94, 95, 96, 97, 98, 99, 100, 101] (by decide +kernel) (by decide +kernel)
set_option maxRecDepth 20000 in
theorem gX5_init_X0_init_n53 : GoodIn wsX5_init (wsX0_init) := ggX5_init_X0_init
set_option maxRecDepth 20000 in
theorem ggX5_init_X3_init : GoodIn wsX5_init wsX3_init := goodIn_r _ [65, 66, 2, 3, 67, 13, 14, 68, 69, 21, 22, 70, 24, 71, 72, 73, 74, 75, 38, 39, 40, 41, 42, 52, 53, 54, 55, 89, 90, 102, 103, 104, 105, 106, 107, 108, 92, 93] (by decide +kernel) (by decide +kernel)
set_option maxRecDepth 20000 in
theorem gX5_init_X3_init_n56 : GoodIn wsX5_init (wsX3_init) := ggX5_init_X3_init
theorem dX5_init_0 : decode cX5_init 0 = .ok (.aload_n 0, 1) := by decide +kernel
theorem dX5_init_1 : decode cX5_init 1 = .ok (.invokespecial 1, 3) := by decide +kernel
theorem dX5_init_4 : decode cX5_init 4 = .ok (.aload_n 0, 1) := by decide +kernel
theorem dX5_init_5 : decode cX5_init 5 = .ok (.iconst 1, 1) := by decide +kernel
theorem dX5_init_6 : decode cX5_init 6 = .ok (.bipush 20, 2) := by decide +kernel
theorem dX5_init_8 : decode cX5_init 8 = .ok (.iload_n 1, 1) := by decide +kernel
theorem dX5_init_9 : decode cX5_init 9 = .ok (.invokestatic 9, 3) := by decide +kernel
theorem dX5_init_12 : decode cX5_init 12 = .ok (.invokestatic 15, 3) := by decide +kernel
theorem dX5_init_15 : decode cX5_init 15 = .ok (.putfield 18, 3) := by decide +kernel
theorem dX5_init_18 : decode cX5_init 18 = .ok (.aload_n 0, 1) := by decide +kernel
theorem dX5_init_19 : decode cX5_init 19 = .ok (.new 22, 3) := by decide +kernel
theorem dX5_init_22 : decode cX5_init 22 = .ok (.dup, 1) := by decide +kernel
theorem dX5_init_23 : decode cX5_init 23 = .ok (.invokespecial 24, 3) := by decide +kernel
theorem dX5_init_26 : decode cX5_init 26 = .ok (.putfield 25, 3) := by decide +kernel
theorem dX5_init_29 : decode cX5_init 29 = .ok (.aload_n 0, 1) := by decide +kernel
theorem dX5_init_30 : decode cX5_init 30 = .ok (.new 29, 3) := by decide +kernel
theorem dX5_init_33 : decode cX5_init 33 = .ok (.dup, 1) := by decide +kernel
theorem dX5_init_34 : decode cX5_init 34 = .ok (.invokespecial 31, 3) := by decide +kernel
theorem dX5_init_37 : decode cX5_init 37 = .ok (.putfield 32, 3) := by decide +kernel
theorem dX5_init_40 : decode cX5_init 40 = .ok (.aload_n 0, 1) := by decide +kernel
theorem dX5_init_41 : decode cX5_init 41 = .ok (.new 36, 3) := by decide +kernel
theorem dX5_init_44 : decode cX5_init 44 = .ok (.dup, 1) := by decide +kernel
theorem dX5_init_45 : decode cX5_init 45 = .ok (.invokespecial 38, 3) := by decide +kernel
theorem dX5_init_48 : decode cX5_init 48 = .ok (.putfield 39, 3) := by decide +kernel
theorem dX5_init_51 : decode cX5_init 51 = .ok (.aload_n 0, 1) := by decide +kernel
theorem dX5_init_52 : decode cX5_init 52 = .ok (.bipush 8, 2) := by decide +kernel
theorem dX5_init_54 : decode cX5_init 54 = .ok (.newarray .int, 2) := by decide +kernel
theorem dX5_init_56 : decode cX5_init 56 = .ok (.putfield 43, 3) := by decide +kernel
theorem dX5_init_59 : decode cX5_init 59 = .ok (.aload_n 0, 1) := by decide +kernel
theorem dX5_init_60 : decode cX5_init 60 = .ok (.bipush 20, 2) := by decide +kernel
theorem dX5_init_62 : decode cX5_init 62 = .ok (.anewarray 47, 3) := by decide +kernel
theorem dX5_init_65 : decode cX5_init 65 = .ok (.putfield 49, 3) := by decide +kernel
theorem dX5_init_68 : decode cX5_init 68 = .ok (.iconst 0, 1) := by decide +kernel
theorem dX5_init_69 : decode cX5_init 69 = .ok (.istore_n 2, 1) := by decide +kernel
theorem dX5_init_70 : decode cX5_init 70 = .ok (.iload_n 2, 1) := by decide +kernel
theorem dX5_init_71 : decode cX5_init 71 = .ok (.bipush 20, 2) := by decide +kernel
theorem dX5_init_73 : decode cX5_init 73 = .ok (.if_icmp .ge 22, 3) := by decide +kernel
theorem dX5_init_76 : decode cX5_init 76 = .ok (.aload_n 0, 1) := by decide +kernel
theorem dX5_init_77 : decode cX5_init 77 = .ok (.getfield 49, 3) := by decide +kernel
theorem dX5_init_80 : decode cX5_init 80 = .ok (.iload_n 2, 1) := by decide +kernel
theorem dX5_init_81 : decode cX5_init 81 = .ok (.new 47, 3) := by decide +kernel
theorem dX5_init_84 : decode cX5_init 84 = .ok (.dup, 1) := by decide +kernel
theorem dX5_init_85 : decode cX5_init 85 = .ok (.invokespecial 53, 3) := by decide +kernel
theorem dX5_init_88 : decode cX5_init 88 = .ok (.aastore, 1) := by decide +kernel
theorem dX5_init_89 : decode cX5_init 89 = .ok (.iinc 2 1, 3) := by decide +kernel
theorem dX5_init_92 : decode cX5_init 92 = .ok (.goto (-22), 3) := by decide +kernel
theorem dX5_init_95 : decode cX5_init 95 = .ok (.aload_n 0, 1) := by decide +kernel
theorem dX5_init_96 : decode cX5_init 96 = .ok (.new 54, 3) := by decide +kernel
theorem dX5_init_99 : decode cX5_init 99 = .ok (.dup, 1) := by decide +kernel
theorem dX5_init_100 : decode cX5_init 100 = .ok (.invokespecial 56, 3) := by decide +kernel
theorem dX5_init_103 : decode cX5_init 103 = .ok (.putfield 57, 3) := by decide +kernel
theorem dX5_init_106 : decode cX5_init 106 = .ok (.aload_n 0, 1) := by decide +kernel
theorem dX5_init_107 : decode cX5_init 107 = .ok (.bipush 20, 2) := by decide +kernel
theorem dX5_init_109 : decode cX5_init 109 = .ok (.newarray .int, 2) := by decide +kernel
theorem dX5_init_111 : decode cX5_init 111 = .ok (.putfield 61, 3) := by decide +kernel
theorem dX5_init_114 : decode cX5_init 114 = .ok (.aload_n 0, 1) := by decide +kernel
theorem dX5_init_115 : decode cX5_init 115 = .ok (.bipush 20, 2) := by decide +kernel
theorem dX5_init_117 : decode cX5_init 117 = .ok (.newarray .boolean, 2) := by decide +kernel
theorem dX5_init_119 : decode cX5_init 119 = .ok (.putfield 64, 3) := by decide +kernel
theorem dX5_init_122 : decode cX5_init 122 = .ok (.aload_n 0, 1) := by decide +kernel
theorem dX5_init_123 : decode cX5_init 123 = .ok (.iconst (-1), 1) := by decide +kernel
theorem dX5_init_124 : decode cX5_init 124 = .ok (.putfield 68, 3) := by decide +kernel
theorem dX5_init_127 : decode cX5_init 127 = .ok (.return_, 1) := by decide +kernel
set_option maxRecDepth 20000 in
theorem ggX5_octet_X2_push : GoodIn wsX5_octet wsX2_push := goodIn_r _ [6, 7, 8, 22, 23] (by decide +kernel) (by decide +kernel)
set_option maxRecDepth 20000 in
theorem gX5_octet_X2_push : GoodIn wsX5_octet (wsV RX5 71 RX2 yX2_push wsX2_push) := goodIn_app (goodIn_of _ (by decide +kernel)) ggX5_octet_X2_push
theorem dX5_octet_0 : decode cX5_octet 0 = .ok (.aload_n 0, 1) := by decide +kernel
theorem dX5_octet_1 : decode cX5_octet 1 = .ok (.getfield 39, 3) := by decide +kernel
theorem dX5_octet_4 : decode cX5_octet 4 = .ok (.iload_n 1, 1) := by decide +kernel
theorem dX5_octet_5 : decode cX5_octet 5 = .ok (.invokevirtual 71, 3) := by decide +kernel
theorem dX5_octet_8 : decode cX5_octet 8 = .ok (.return_, 1) := by decide +kernel
set_option maxRecDepth 20000 in
theorem ggX5_digest_X1_compute : GoodIn wsX5_digest wsX1_compute := goodIn_r _ [10, 11, 12, 13, 14, 15, 16, 17, 18, 19, 20, 21, 9, 22, 23, 24, 25, 26, 27, 28, 29, 30, 31, 32, 33, 34, 35, 36, 37, 38, 39, 40, 41, 42, 43, 44, 45, 46, 47, 48, 74, 75, 76, 77] (by decide +kernel) (by decide +kernel)
set_option maxRecDepth 20000 in
theorem gX5_digest_X1_compute : GoodIn wsX5_digest (wsV RX5 75 RX1 yX1_compute wsX1_compute) := goodIn_app (goodIn_of _ (by decide +kernel)) ggX5_digest_X1_compute
set_option maxRecDepth 20000 in
theorem ggX5_digest_X1_copyTo : GoodIn wsX5_digest wsX1_copyTo := goodIn_r _ [52, 11, 74, 75] (by decide +kernel) (by decide +kernel)
set_option maxRecDepth 20000 in
theorem gX5_digest_X1_copyTo : GoodIn wsX5_digest (wsV RX5 79 RX1 yX1_copyTo wsX1_copyTo) := goodIn_app (goodIn_of _ (by decide +kernel)) ggX5_digest_X1_copyTo
set_option maxRecDepth 20000 in
theorem ggX5_digest_X4_compute : GoodIn wsX5_digest wsX4_compute := goodIn_r _ [57, 58, 59, 15, 16, 17, 18, 19, 60, 24, 25, 26, 27, 78, 76, 77] (by decide +kernel) (by decide +kernel)
set_option maxRecDepth 20000 in
theorem gX5_digest_X4_compute : GoodIn wsX5_digest (wsV RX5 86 RX4 yX4_compute wsX4_compute) := goodIn_app (goodIn_of _ (by decide +kernel)) ggX5_digest_X4_compute
theorem dX5_digest_0 : decode cX5_digest 0 = .ok (.iload_n 1, 1) := by decide +kernel
theorem dX5_digest_1 : decode cX5_digest 1 = .ok (.ifCond .ne 34, 3) := by decide +kernel
theorem dX5_digest_4 : decode cX5_digest 4 = .ok (.aload_n 0, 1) := by decide +kernel
theorem dX5_digest_5 : decode cX5_digest 5 = .ok (.getfield 25, 3) := by decide +kernel
theorem dX5_digest_8 : decode cX5_digest 8 = .ok (.aload_n 0, 1) := by decide +kernel
theorem dX5_digest_9 : decode cX5_digest 9 = .ok (.getfield 39, 3) := by decide +kernel
theorem dX5_digest_12 : decode cX5_digest 12 = .ok (.invokevirtual 75, 3) := by decide +kernel
theorem dX5_digest_15 : decode cX5_digest 15 = .ok (.aload_n 0, 1) := by decide +kernel
theorem dX5_digest_16 : decode cX5_digest 16 = .ok (.getfield 25, 3) := by decide +kernel
theorem dX5_digest_19 : decode cX5_digest 19 = .ok (.aload_n 0, 1) := by decide +kernel
theorem dX5_digest_20 : decode cX5_digest 20 = .ok (.getfield 43, 3) := by decide +kernel
theorem dX5_digest_23 : decode cX5_digest 23 = .ok (.invokevirtual 79, 3) := by decide +kernel
theorem dX5_digest_26 : decode cX5_digest 26 = .ok (.aload_n 0, 1) := by decide +kernel
theorem dX5_digest_27 : decode cX5_digest 27 = .ok (.bipush 32, 2) := by decide +kernel
theorem dX5_digest_29 : decode cX5_digest 29 = .ok (.putfield 83, 3) := by decide +kernel
theorem dX5_digest_32 : decode cX5_digest 32 = .ok (.bipush 32, 2) := by decide +kernel
theorem dX5_digest_34 : decode cX5_digest 34 = .ok (.ireturn, 1) := by decide +kernel
theorem dX5_digest_35 : decode cX5_digest 35 = .ok (.iload_n 1, 1) := by decide +kernel
theorem dX5_digest_36 : decode cX5_digest 36 = .ok (.iconst 1, 1) := by decide +kernel
theorem dX5_digest_37 : decode cX5_digest 37 = .ok (.if_icmp .ne 27, 3) := by decide +kernel
theorem dX5_digest_40 : decode cX5_digest 40 = .ok (.aload_n 0, 1) := by decide +kernel
theorem dX5_digest_41 : decode cX5_digest 41 = .ok (.getfield 43, 3) := by decide +kernel
theorem dX5_digest_44 : decode cX5_digest 44 = .ok (.iconst 0, 1) := by decide +kernel
theorem dX5_digest_45 : decode cX5_digest 45 = .ok (.aload_n 0, 1) := by decide +kernel
theorem dX5_digest_46 : decode cX5_digest 46 = .ok (.getfield 32, 3) := by decide +kernel
theorem dX5_digest_49 : decode cX5_digest 49 = .ok (.aload_n 0, 1) := by decide +kernel
theorem dX5_digest_50 : decode cX5_digest 50 = .ok (.getfield 39, 3) := by decide +kernel
theorem dX5_digest_53 : decode cX5_digest 53 = .ok (.invokevirtual 86, 3) := by decide +kernel
theorem dX5_digest_56 : decode cX5_digest 56 = .ok (.iastore, 1) := by decide +kernel
theorem dX5_digest_57 : decode cX5_digest 57 = .ok (.aload_n 0, 1) := by decide +kernel
theorem dX5_digest_58 : decode cX5_digest 58 = .ok (.iconst 4, 1) := by decide +kernel
theorem dX5_digest_59 : decode cX5_digest 59 = .ok (.putfield 83, 3) := by decide +kernel
theorem dX5_digest_62 : decode cX5_digest 62 = .ok (.iconst 4, 1) := by decide +kernel
theorem dX5_digest_63 : decode cX5_digest 63 = .ok (.ireturn, 1) := by decide +kernel
theorem dX5_digest_64 : decode cX5_digest 64 = .ok (.bipush (-2), 2) := by decide +kernel
theorem dX5_digest_66 : decode cX5_digest 66 = .ok (.ireturn, 1) := by decide +kernel
theorem dX5_at_0 : decode cX5_at 0 = .ok (.iload_n 1, 1) := by decide +kernel
theorem dX5_at_1 : decode cX5_at 1 = .ok (.ifCond .lt 11, 3) := by decide +kernel
theorem dX5_at_4 : decode cX5_at 4 = .ok (.iload_n 1, 1) := by decide +kernel
theorem dX5_at_5 : decode cX5_at 5 = .ok (.aload_n 0, 1) := by decide +kernel
theorem dX5_at_6 : decode cX5_at 6 = .ok (.getfield 83, 3) := by decide +kernel
theorem dX5_at_9 : decode cX5_at 9 = .ok (.if_icmp .lt 13, 3) := by decide +kernel
theorem dX5_at_12 : decode cX5_at 12 = .ok (.new 89, 3) := by decide +kernel
theorem dX5_at_15 : decode cX5_at 15 = .ok (.dup, 1) := by decide +kernel
theorem dX5_at_16 : decode cX5_at 16 = .ok (.ldc 91, 2) := by decide +kernel
theorem dX5_at_18 : decode cX5_at 18 = .ok (.invokespecial 93, 3) := by decide +kernel
theorem dX5_at_21 : decode cX5_at 21 = .ok (.athrow, 1) := by decide +kernel
theorem dX5_at_22 : decode cX5_at 22 = .ok (.aload_n 0, 1) := by decide +kernel
theorem dX5_at_23 : decode cX5_at 23 = .ok (.getfield 43, 3) := by decide +kernel
theorem dX5_at_26 : decode cX5_at 26 = .ok (.iload_n 1, 1) := by decide +kernel
theorem dX5_at_27 : decode cX5_at 27 = .ok (.iconst 2, 1) := by decide +kernel
theorem dX5_at_28 : decode cX5_at 28 = .ok (.ishr, 1) := by decide +kernel
theorem dX5_at_29 : decode cX5_at 29 = .ok (.iaload, 1) := by decide +kernel
theorem dX5_at_30 : decode cX5_at 30 = .ok (.bipush 24, 2) := by decide +kernel
theorem dX5_at_32 : decode cX5_at 32 = .ok (.bipush 8, 2) := by decide +kernel
theorem dX5_at_34 : decode cX5_at 34 = .ok (.iload_n 1, 1) := by decide +kernel
theorem dX5_at_35 : decode cX5_at 35 = .ok (.iconst 3, 1) := by decide +kernel
theorem dX5_at_36 : decode cX5_at 36 = .ok (.iand, 1) := by decide +kernel
theorem dX5_at_37 : decode cX5_at 37 = .ok (.imul, 1) := by decide +kernel
theorem dX5_at_38 : decode cX5_at 38 = .ok (.isub, 1) := by decide +kernel
theorem dX5_at_39 : decode cX5_at 39 = .ok (.iushr, 1) := by decide +kernel
theorem dX5_at_40 : decode cX5_at 40 = .ok (.sipush 255, 3) := by decide +kernel
theorem dX5_at_43 : decode cX5_at 43 = .ok (.iand, 1) := by decide +kernel
theorem dX5_at_44 : decode cX5_at 44 = .ok (.ireturn, 1) := by decide +kernel
set_option maxRecDepth 20000 in
theorem ggX5_file_X5_isDay : GoodIn wsX5_file wsX5_isDay := goodIn_r _ [10, 11] (by decide +kernel) (by decide +kernel)
set_option maxRecDepth 20000 in
theorem gX5_file_X5_isDay : GoodIn wsX5_file (va_wsS RX5 96 yX5_isDay wsX5_isDay) := goodIn_app (goodIn_of _ (by decide +kernel)) ggX5_file_X5_isDay
set_option maxRecDepth 20000 in
theorem ggX5_file_X2_copyFrom : GoodIn wsX5_file wsX2_copyFrom := goodIn_r _ [16, 17, 18, 139, 140] (by decide +kernel) (by decide +kernel)
set_option maxRecDepth 20000 in
theorem gX5_file_X2_copyFrom : GoodIn wsX5_file (wsV RX5 106 RX2 yX2_copyFrom wsX2_copyFrom) := goodIn_app (goodIn_of _ (by decide +kernel)) ggX5_file_X2_copyFrom
set_option maxRecDepth 20000 in
theorem ggX5_file_X1_compute : GoodIn wsX5_file wsX1_compute := goodIn_r _ [23, 24, 25, 26, 27, 28, 29, 15, 30, 17, 31, 32, 22, 33, 34, 35, 36, 37, 18, 38, 39, 40, 41, 42, 43, 44, 45, 46, 47, 48, 49, 50, 51, 52, 53, 54, 55, 56, 57, 58, 141, 142, 139, 140] (by decide +kernel) (by decide +kernel)
set_option maxRecDepth 20000 in
theorem gX5_file_X1_compute : GoodIn wsX5_file (wsV RX5 75 RX1 yX1_compute wsX1_compute) := goodIn_app (goodIn_of _ (by decide +kernel)) ggX5_file_X1_compute
set_option maxRecDepth 20000 in
theorem ggX5_file_X1_copyTo : GoodIn wsX5_file wsX1_copyTo := goodIn_r _ [62, 24, 141, 142] (by decide +kernel) (by decide +kernel)
set_option maxRecDepth 20000 in
theorem gX5_file_X1_copyTo : GoodIn wsX5_file (wsV RX5 79 RX1 yX1_copyTo wsX1_copyTo) := goodIn_app (goodIn_of _ (by decide +kernel)) ggX5_file_X1_copyTo
set_option maxRecDepth 20000 in
theorem ggX5_file_X4_compute : GoodIn wsX5_file wsX4_compute := goodIn_r _ [67, 68, 69, 28, 29, 15, 30, 17, 70, 35, 36, 37, 18, 143, 139, 140] (by decide +kernel) (by decide +kernel)
set_option maxRecDepth 20000 in
theorem gX5_file_X4_compute : GoodIn wsX5_file (wsV RX5 86 RX4 yX4_compute wsX4_compute) := goodIn_app (goodIn_of _ (by decide +kernel)) ggX5_file_X4_compute
set_option maxRecDepth 20000 in
theorem ggX5_file_X2_shorten : GoodIn wsX5_file wsX2_shorten := goodIn_r _ [74, 17, 139, 140] (by decide +kernel) (by decide +kernel)
set_option maxRecDepth 20000 in
theorem gX5_file_X2_shorten : GoodIn wsX5_file (wsV RX5 118 RX2 yX2_shorten wsX2_shorten) := goodIn_app (goodIn_of _ (by decide +kernel)) ggX5_file_X2_shorten
set_option maxRecDepth 20000 in
theorem ggX5_file_X3_append : GoodIn wsX5_file wsX3_append := goodIn_r _ [79, 80, 81, 82, 83, 84, 85, 86, 87, 88, 78, 89, 90, 91, 72, 73, 15, 74, 17, 92, 93, 94, 95, 96, 97, 98, 99, 100, 101, 102, 103, 18, 104, 105, 106, 107, 108, 109, 110, 111, 112, 113, 114, 115, 116, 20, 21, 22, 23, 24, 25, 26, 27, 28, 29, 30, 31, 32, 33, 34, 35, 36, 37, 38, 39, 40, 41, 42, 43, 44, 45, 46, 47, 48, 49, 50, 51, 52, 53, 54, 55, 56, 57, 58, 117, 60, 61, 62, 144, 145, 146, 147, 148, 149, 150, 139, 140, 141, 142] (by decide +kernel) (by decide +kernel)
set_option maxRecDepth 20000 in
theorem gX5_file_X3_append : GoodIn wsX5_file (wsV RX5 121 RX3 yX3_append wsX3_append) := goodIn_app (goodIn_of _ (by decide +kernel)) ggX5_file_X3_append
theorem dX5_file_0 : decode cX5_file 0 = .ok (.iload_n 1, 1) := by decide +kernel
theorem dX5_file_1 : decode cX5_file 1 = .ok (.iconst 1, 1) := by decide +kernel
theorem dX5_file_2 : decode cX5_file 2 = .ok (.if_icmp .lt 15, 3) := by decide +kernel
theorem dX5_file_5 : decode cX5_file 5 = .ok (.iload_n 1, 1) := by decide +kernel
theorem dX5_file_6 : decode cX5_file 6 = .ok (.iconst 3, 1) := by decide +kernel
theorem dX5_file_7 : decode cX5_file 7 = .ok (.if_icmp .gt 10, 3) := by decide +kernel
theorem dX5_file_10 : decode cX5_file 10 = .ok (.iload_n 2, 1) := by decide +kernel
theorem dX5_file_11 : decode cX5_file 11 = .ok (.invokestatic 96, 3) := by decide +kernel
theorem dX5_file_14 : decode cX5_file 14 = .ok (.ifCond .ne 6, 3) := by decide +kernel
theorem dX5_file_17 : decode cX5_file 17 = .ok (.bipush (-2), 2) := by decide +kernel
theorem dX5_file_19 : decode cX5_file 19 = .ok (.ireturn, 1) := by decide +kernel
theorem dX5_file_20 : decode cX5_file 20 = .ok (.aload_n 0, 1) := by decide +kernel
theorem dX5_file_21 : decode cX5_file 21 = .ok (.getfield 100, 3) := by decide +kernel
theorem dX5_file_24 : decode cX5_file 24 = .ok (.bipush 20, 2) := by decide +kernel
theorem dX5_file_26 : decode cX5_file 26 = .ok (.if_icmp .lt 6, 3) := by decide +kernel
theorem dX5_file_29 : decode cX5_file 29 = .ok (.bipush (-4), 2) := by decide +kernel
theorem dX5_file_31 : decode cX5_file 31 = .ok (.ireturn, 1) := by decide +kernel
theorem dX5_file_32 : decode cX5_file 32 = .ok (.aload_n 0, 1) := by decide +kernel
theorem dX5_file_33 : decode cX5_file 33 = .ok (.getfield 100, 3) := by decide +kernel
theorem dX5_file_36 : decode cX5_file 36 = .ok (.istore_n 3, 1) := by decide +kernel
theorem dX5_file_37 : decode cX5_file 37 = .ok (.aload_n 0, 1) := by decide +kernel
theorem dX5_file_38 : decode cX5_file 38 = .ok (.getfield 49, 3) := by decide +kernel
theorem dX5_file_41 : decode cX5_file 41 = .ok (.iload_n 3, 1) := by decide +kernel
theorem dX5_file_42 : decode cX5_file 42 = .ok (.aaload, 1) := by decide +kernel
theorem dX5_file_43 : decode cX5_file 43 = .ok (.astore 4, 2) := by decide +kernel
theorem dX5_file_45 : decode cX5_file 45 = .ok (.aload 4, 2) := by decide +kernel
theorem dX5_file_47 : decode cX5_file 47 = .ok (.getfield 103, 3) := by decide +kernel
theorem dX5_file_50 : decode cX5_file 50 = .ok (.aload_n 0, 1) := by decide +kernel
theorem dX5_file_51 : decode cX5_file 51 = .ok (.getfield 39, 3) := by decide +kernel
theorem dX5_file_54 : decode cX5_file 54 = .ok (.invokevirtual 106, 3) := by decide +kernel
theorem dX5_file_57 : decode cX5_file 57 = .ok (.aload 4, 2) := by decide +kernel
theorem dX5_file_59 : decode cX5_file 59 = .ok (.iload_n 1, 1) := by decide +kernel
theorem dX5_file_60 : decode cX5_file 60 = .ok (.putfield 109, 3) := by decide +kernel
theorem dX5_file_63 : decode cX5_file 63 = .ok (.aload_n 0, 1) := by decide +kernel
theorem dX5_file_64 : decode cX5_file 64 = .ok (.getfield 25, 3) := by decide +kernel
theorem dX5_file_67 : decode cX5_file 67 = .ok (.aload_n 0, 1) := by decide +kernel
theorem dX5_file_68 : decode cX5_file 68 = .ok (.getfield 39, 3) := by decide +kernel
theorem dX5_file_71 : decode cX5_file 71 = .ok (.invokevirtual 75, 3) := by decide +kernel
theorem dX5_file_74 : decode cX5_file 74 = .ok (.aload_n 0, 1) := by decide +kernel
theorem dX5_file_75 : decode cX5_file 75 = .ok (.getfield 25, 3) := by decide +kernel
theorem dX5_file_78 : decode cX5_file 78 = .ok (.aload 4, 2) := by decide +kernel
theorem dX5_file_80 : decode cX5_file 80 = .ok (.getfield 112, 3) := by decide +kernel
theorem dX5_file_83 : decode cX5_file 83 = .ok (.invokevirtual 79, 3) := by decide +kernel
theorem dX5_file_86 : decode cX5_file 86 = .ok (.aload 4, 2) := by decide +kernel
theorem dX5_file_88 : decode cX5_file 88 = .ok (.aload_n 0, 1) := by decide +kernel
theorem dX5_file_89 : decode cX5_file 89 = .ok (.getfield 32, 3) := by decide +kernel
theorem dX5_file_92 : decode cX5_file 92 = .ok (.aload_n 0, 1) := by decide +kernel
theorem dX5_file_93 : decode cX5_file 93 = .ok (.getfield 39, 3) := by decide +kernel
theorem dX5_file_96 : decode cX5_file 96 = .ok (.invokevirtual 86, 3) := by decide +kernel
theorem dX5_file_99 : decode cX5_file 99 = .ok (.putfield 115, 3) := by decide +kernel
theorem dX5_file_102 : decode cX5_file 102 = .ok (.aload_n 0, 1) := by decide +kernel
theorem dX5_file_103 : decode cX5_file 103 = .ok (.dup, 1) := by decide +kernel
theorem dX5_file_104 : decode cX5_file 104 = .ok (.getfield 100, 3) := by decide +kernel
theorem dX5_file_107 : decode cX5_file 107 = .ok (.iconst 1, 1) := by decide +kernel
theorem dX5_file_108 : decode cX5_file 108 = .ok (.iadd, 1) := by decide +kernel
theorem dX5_file_109 : decode cX5_file 109 = .ok (.putfield 100, 3) := by decide +kernel
theorem dX5_file_112 : decode cX5_file 112 = .ok (.aload_n 0, 1) := by decide +kernel
theorem dX5_file_113 : decode cX5_file 113 = .ok (.getfield 39, 3) := by decide +kernel
theorem dX5_file_116 : decode cX5_file 116 = .ok (.iconst 0, 1) := by decide +kernel
theorem dX5_file_117 : decode cX5_file 117 = .ok (.invokevirtual 118, 3) := by decide +kernel
theorem dX5_file_120 : decode cX5_file 120 = .ok (.aload_n 0, 1) := by decide +kernel
theorem dX5_file_121 : decode cX5_file 121 = .ok (.getfield 57, 3) := by decide +kernel
theorem dX5_file_124 : decode cX5_file 124 = .ok (.iconst 0, 1) := by decide +kernel
theorem dX5_file_125 : decode cX5_file 125 = .ok (.iload_n 3, 1) := by decide +kernel
theorem dX5_file_126 : decode cX5_file 126 = .ok (.iload_n 2, 1) := by decide +kernel
theorem dX5_file_127 : decode cX5_file 127 = .ok (.invokevirtual 121, 3) := by decide +kernel
theorem dX5_file_130 : decode cX5_file 130 = .ok (.iload_n 3, 1) := by decide +kernel
theorem dX5_file_131 : decode cX5_file 131 = .ok (.ireturn, 1) := by decide +kernel
set_option maxRecDepth 20000 in
theorem ggX5_alter_X5_isFile : GoodIn wsX5_alter wsX5_isFile := goodIn_r _ [6, 7, 24, 25, 26, 27, 28, 29, 30, 31, 32, 33, 34, 35, 36] (by decide +kernel) (by decide +kernel)
set_option maxRecDepth 20000 in
theorem gX5_alter_X5_isFile : GoodIn wsX5_alter (wsV RX5 125 RX5 yX5_isFile wsX5_isFile) := goodIn_app (goodIn_of _ (by decide +kernel)) ggX5_alter_X5_isFile
set_option maxRecDepth 20000 in
theorem ggX5_alter_X2_has : GoodIn wsX5_alter wsX2_has := goodIn_r _ [12, 13, 45, 46] (by decide +kernel) (by decide +kernel)
set_option maxRecDepth 20000 in
theorem gX5_alter_X2_has : GoodIn wsX5_alter (wsV RX5 128 RX2 yX2_has wsX2_has) := goodIn_app (goodIn_of _ (by decide +kernel)) ggX5_alter_X2_has
set_option maxRecDepth 20000 in
theorem ggX5_alter_X2_value : GoodIn wsX5_alter wsX2_value := goodIn_r _ [17, 13, 18, 45, 46] (by decide +kernel) (by decide +kernel)
set_option maxRecDepth 20000 in
theorem gX5_alter_X2_value : GoodIn wsX5_alter (wsV RX5 131 RX2 yX2_value wsX2_value) := goodIn_app (goodIn_of _ (by decide +kernel)) ggX5_alter_X2_value
set_option maxRecDepth 20000 in
theorem ggX5_alter_X2_replace : GoodIn wsX5_alter wsX2_replace := goodIn_r _ [22, 18, 23, 9, 10, 11, 12, 13, 45, 46] (by decide +kernel) (by decide +kernel)
set_option maxRecDepth 20000 in
theorem gX5_alter_X2_replace : GoodIn wsX5_alter (wsV RX5 135 RX2 yX2_replace wsX2_replace) := goodIn_app (goodIn_of _ (by decide +kernel)) ggX5_alter_X2_replace
theorem dX5_alter_0 : decode cX5_alter 0 = .ok (.aload_n 0, 1) := by decide +kernel
theorem dX5_alter_1 : decode cX5_alter 1 = .ok (.iload_n 1, 1) := by decide +kernel
theorem dX5_alter_2 : decode cX5_alter 2 = .ok (.invokevirtual 125, 3) := by decide +kernel
theorem dX5_alter_5 : decode cX5_alter 5 = .ok (.ifCond .ne 5, 3) := by decide +kernel
theorem dX5_alter_8 : decode cX5_alter 8 = .ok (.iconst (-1), 1) := by decide +kernel
theorem dX5_alter_9 : decode cX5_alter 9 = .ok (.ireturn, 1) := by decide +kernel
theorem dX5_alter_10 : decode cX5_alter 10 = .ok (.aload_n 0, 1) := by decide +kernel
theorem dX5_alter_11 : decode cX5_alter 11 = .ok (.getfield 49, 3) := by decide +kernel
theorem dX5_alter_14 : decode cX5_alter 14 = .ok (.iload_n 1, 1) := by decide +kernel
theorem dX5_alter_15 : decode cX5_alter 15 = .ok (.aaload, 1) := by decide +kernel
theorem dX5_alter_16 : decode cX5_alter 16 = .ok (.getfield 103, 3) := by decide +kernel
theorem dX5_alter_19 : decode cX5_alter 19 = .ok (.astore 4, 2) := by decide +kernel
theorem dX5_alter_21 : decode cX5_alter 21 = .ok (.aload 4, 2) := by decide +kernel
theorem dX5_alter_23 : decode cX5_alter 23 = .ok (.iload_n 2, 1) := by decide +kernel
theorem dX5_alter_24 : decode cX5_alter 24 = .ok (.invokevirtual 128, 3) := by decide +kernel
theorem dX5_alter_27 : decode cX5_alter 27 = .ok (.ifCond .ne 5, 3) := by decide +kernel
theorem dX5_alter_30 : decode cX5_alter 30 = .ok (.iconst (-1), 1) := by decide +kernel
theorem dX5_alter_31 : decode cX5_alter 31 = .ok (.ireturn, 1) := by decide +kernel
theorem dX5_alter_32 : decode cX5_alter 32 = .ok (.aload 4, 2) := by decide +kernel
theorem dX5_alter_34 : decode cX5_alter 34 = .ok (.iload_n 2, 1) := by decide +kernel
theorem dX5_alter_35 : decode cX5_alter 35 = .ok (.invokevirtual 131, 3) := by decide +kernel
theorem dX5_alter_38 : decode cX5_alter 38 = .ok (.istore 5, 2) := by decide +kernel
theorem dX5_alter_40 : decode cX5_alter 40 = .ok (.aload 4, 2) := by decide +kernel
theorem dX5_alter_42 : decode cX5_alter 42 = .ok (.iload_n 2, 1) := by decide +kernel
theorem dX5_alter_43 : decode cX5_alter 43 = .ok (.iload_n 3, 1) := by decide +kernel
theorem dX5_alter_44 : decode cX5_alter 44 = .ok (.invokevirtual 135, 3) := by decide +kernel
theorem dX5_alter_47 : decode cX5_alter 47 = .ok (.iload 5, 2) := by decide +kernel
theorem dX5_alter_49 : decode cX5_alter 49 = .ok (.ireturn, 1) := by decide +kernel
set_option maxRecDepth 20000 in
theorem ggX5_cut_X5_isFile : GoodIn wsX5_cut wsX5_isFile := goodIn_r _ [6, 7, 18, 19, 20, 21, 22, 23, 24, 25, 26, 27, 28, 29, 30] (by decide +kernel) (by decide +kernel)
set_option maxRecDepth 20000 in
theorem gX5_cut_X5_isFile : GoodIn wsX5_cut (wsV RX5 125 RX5 yX5_isFile wsX5_isFile) := goodIn_app (goodIn_of _ (by decide +kernel)) ggX5_cut_X5_isFile
set_option maxRecDepth 20000 in
theorem ggX5_cut_X2_count : GoodIn wsX5_cut wsX2_count := goodIn_r _ [12, 13, 39, 40] (by decide +kernel) (by decide +kernel)
set_option maxRecDepth 20000 in
theorem gX5_cut_X2_count : GoodIn wsX5_cut (wsV RX5 139 RX2 yX2_count wsX2_count) := goodIn_app (goodIn_of _ (by decide +kernel)) ggX5_cut_X2_count
set_option maxRecDepth 20000 in
theorem ggX5_cut_X2_shorten : GoodIn wsX5_cut wsX2_shorten := goodIn_r _ [17, 13, 39, 40] (by decide +kernel) (by decide +kernel)
set_option maxRecDepth 20000 in
theorem gX5_cut_X2_shorten : GoodIn wsX5_cut (wsV RX5 118 RX2 yX2_shorten wsX2_shorten) := goodIn_app (goodIn_of _ (by decide +kernel)) ggX5_cut_X2_shorten
theorem dX5_cut_0 : decode cX5_cut 0 = .ok (.aload_n 0, 1) := by decide +kernel
theorem dX5_cut_1 : decode cX5_cut 1 = .ok (.iload_n 1, 1) := by decide +kernel
theorem dX5_cut_2 : decode cX5_cut 2 = .ok (.invokevirtual 125, 3) := by decide +kernel
theorem dX5_cut_5 : decode cX5_cut 5 = .ok (.ifCond .ne 5, 3) := by decide +kernel
theorem dX5_cut_8 : decode cX5_cut 8 = .ok (.iconst (-1), 1) := by decide +kernel
theorem dX5_cut_9 : decode cX5_cut 9 = .ok (.ireturn, 1) := by decide +kernel
theorem dX5_cut_10 : decode cX5_cut 10 = .ok (.aload_n 0, 1) := by decide +kernel
theorem dX5_cut_11 : decode cX5_cut 11 = .ok (.getfield 49, 3) := by decide +kernel
theorem dX5_cut_14 : decode cX5_cut 14 = .ok (.iload_n 1, 1) := by decide +kernel
theorem dX5_cut_15 : decode cX5_cut 15 = .ok (.aaload, 1) := by decide +kernel
theorem dX5_cut_16 : decode cX5_cut 16 = .ok (.getfield 103, 3) := by decide +kernel
theorem dX5_cut_19 : decode cX5_cut 19 = .ok (.astore_n 3, 1) := by decide +kernel
theorem dX5_cut_20 : decode cX5_cut 20 = .ok (.aload_n 3, 1) := by decide +kernel
theorem dX5_cut_21 : decode cX5_cut 21 = .ok (.invokevirtual 139, 3) := by decide +kernel
theorem dX5_cut_24 : decode cX5_cut 24 = .ok (.istore 4, 2) := by decide +kernel
theorem dX5_cut_26 : decode cX5_cut 26 = .ok (.iload_n 2, 1) := by decide +kernel
theorem dX5_cut_27 : decode cX5_cut 27 = .ok (.ifCond .lt 9, 3) := by decide +kernel
theorem dX5_cut_30 : decode cX5_cut 30 = .ok (.iload_n 2, 1) := by decide +kernel
theorem dX5_cut_31 : decode cX5_cut 31 = .ok (.iload 4, 2) := by decide +kernel
theorem dX5_cut_33 : decode cX5_cut 33 = .ok (.if_icmp .le 6, 3) := by decide +kernel
theorem dX5_cut_36 : decode cX5_cut 36 = .ok (.bipush (-2), 2) := by decide +kernel
theorem dX5_cut_38 : decode cX5_cut 38 = .ok (.ireturn, 1) := by decide +kernel
theorem dX5_cut_39 : decode cX5_cut 39 = .ok (.aload_n 3, 1) := by decide +kernel
theorem dX5_cut_40 : decode cX5_cut 40 = .ok (.iload_n 2, 1) := by decide +kernel
theorem dX5_cut_41 : decode cX5_cut 41 = .ok (.invokevirtual 118, 3) := by decide +kernel
theorem dX5_cut_44 : decode cX5_cut 44 = .ok (.iload 4, 2) := by decide +kernel
theorem dX5_cut_46 : decode cX5_cut 46 = .ok (.iload_n 2, 1) := by decide +kernel
theorem dX5_cut_47 : decode cX5_cut 47 = .ok (.isub, 1) := by decide +kernel
theorem dX5_cut_48 : decode cX5_cut 48 = .ok (.ireturn, 1) := by decide +kernel
set_option maxRecDepth 20000 in
theorem ggX5_read_X5_isFile : GoodIn wsX5_read wsX5_isFile := goodIn_r _ [5, 6, 127, 128, 129, 130, 131, 132, 133, 134, 135, 136, 137, 138, 139] (by decide +kernel) (by decide +kernel)
set_option maxRecDepth 20000 in
theorem gX5_read_X5_isFile : GoodIn wsX5_read (wsV RX5 125 RX5 yX5_isFile wsX5_isFile) := goodIn_app (goodIn_of _ (by decide +kernel)) ggX5_read_X5_isFile
set_option maxRecDepth 20000 in
theorem ggX5_read_X5_isDay : GoodIn wsX5_read wsX5_isDay := goodIn_r _ [9, 10] (by decide +kernel) (by decide +kernel)
set_option maxRecDepth 20000 in
theorem gX5_read_X5_isDay : GoodIn wsX5_read (va_wsS RX5 96 yX5_isDay wsX5_isDay) := goodIn_app (goodIn_of _ (by decide +kernel)) ggX5_read_X5_isDay
set_option maxRecDepth 20000 in
theorem ggX5_read_X5_check : GoodIn wsX5_read wsX5_check := goodIn_r _ [14, 15, 16, 17, 18, 19, 4, 20, 21, 22, 23, 24, 25, 26, 27, 28, 29, 30, 31, 32, 33, 34, 35, 36, 37, 38, 39, 40, 41, 42, 43, 44, 45, 46, 47, 48, 49, 50, 51, 52, 53, 54, 55, 56, 57, 58, 59, 60, 61, 62, 63, 64, 65, 66, 67, 68, 69, 70, 71, 72, 73, 74, 75, 76, 77, 78, 79, 80, 81, 82, 83, 84, 85, 86, 87, 88, 89, 90, 91, 92, 93, 94, 95, 96, 97, 98, 99, 100, 101, 102, 103, 104, 105, 106, 107, 108, 109, 110, 111, 112, 113, 114, 115, 116, 117, 118, 119, 120, 121, 122, 123, 124, 125, 126, 127, 128, 129, 130, 131, 132, 133, 134, 135, 136, 137, 138, 139, 140, 141, 142, 143, 144, 145, 146, 147, 148, 149, 150, 151, 152, 153, 154, 155, 156, 157, 158, 159] (by decide +kernel) (by decide +kernel)
set_option maxRecDepth 20000 in
theorem gX5_read_X5_check : GoodIn wsX5_read (wsV RX5 143 RX5 yX5_check wsX5_check) := goodIn_app (goodIn_of _ (by decide +kernel)) ggX5_read_X5_check
theorem dX5_read_0 : decode cX5_read 0 = .ok (.aload_n 0, 1) := by decide +kernel
theorem dX5_read_1 : decode cX5_read 1 = .ok (.iload_n 1, 1) := by decide +kernel
theorem dX5_read_2 : decode cX5_read 2 = .ok (.invokevirtual 125, 3) := by decide +kernel
theorem dX5_read_5 : decode cX5_read 5 = .ok (.ifCond .ne 5, 3) := by decide +kernel
theorem dX5_read_8 : decode cX5_read 8 = .ok (.iconst (-1), 1) := by decide +kernel
theorem dX5_read_9 : decode cX5_read 9 = .ok (.ireturn, 1) := by decide +kernel
theorem dX5_read_10 : decode cX5_read 10 = .ok (.iload_n 2, 1) := by decide +kernel
theorem dX5_read_11 : decode cX5_read 11 = .ok (.invokestatic 96, 3) := by decide +kernel
theorem dX5_read_14 : decode cX5_read 14 = .ok (.ifCond .ne 6, 3) := by decide +kernel
theorem dX5_read_17 : decode cX5_read 17 = .ok (.bipush (-2), 2) := by decide +kernel
theorem dX5_read_19 : decode cX5_read 19 = .ok (.ireturn, 1) := by decide +kernel
theorem dX5_read_20 : decode cX5_read 20 = .ok (.aload_n 0, 1) := by decide +kernel
theorem dX5_read_21 : decode cX5_read 21 = .ok (.iload_n 1, 1) := by decide +kernel
theorem dX5_read_22 : decode cX5_read 22 = .ok (.iload_n 2, 1) := by decide +kernel
theorem dX5_read_23 : decode cX5_read 23 = .ok (.invokevirtual 143, 3) := by decide +kernel
theorem dX5_read_26 : decode cX5_read 26 = .ok (.ifCond .eq 7, 3) := by decide +kernel
theorem dX5_read_29 : decode cX5_read 29 = .ok (.iconst 1, 1) := by decide +kernel
theorem dX5_read_30 : decode cX5_read 30 = .ok (.goto 4, 3) := by decide +kernel
theorem dX5_read_33 : decode cX5_read 33 = .ok (.iconst 0, 1) := by decide +kernel
theorem dX5_read_34 : decode cX5_read 34 = .ok (.ireturn, 1) := by decide +kernel
set_option maxRecDepth 20000 in
theorem ggX5_schedule_X5_isFile : GoodIn wsX5_schedule wsX5_isFile := goodIn_r _ [6, 7, 19, 20, 21, 22, 23, 24, 25, 26, 27, 28, 29, 30, 31] (by decide +kernel) (by decide +kernel)
set_option maxRecDepth 20000 in
theorem gX5_schedule_X5_isFile : GoodIn wsX5_schedule (wsV RX5 125 RX5 yX5_isFile wsX5_isFile) := goodIn_app (goodIn_of _ (by decide +kernel)) ggX5_schedule_X5_isFile
set_option maxRecDepth 20000 in
theorem ggX5_schedule_X5_isDay : GoodIn wsX5_schedule wsX5_isDay := goodIn_r _ [10, 11] (by decide +kernel) (by decide +kernel)
set_option maxRecDepth 20000 in
theorem gX5_schedule_X5_isDay : GoodIn wsX5_schedule (va_wsS RX5 96 yX5_isDay wsX5_isDay) := goodIn_app (goodIn_of _ (by decide +kernel)) ggX5_schedule_X5_isDay
set_option maxRecDepth 20000 in
theorem ggX5_schedule_X0_plan : GoodIn wsX5_schedule wsX0_plan := goodIn_r _ [16, 17, 18, 32, 33, 34, 35, 36, 37, 38, 39] (by decide +kernel) (by decide +kernel)
set_option maxRecDepth 20000 in
theorem gX5_schedule_X0_plan : GoodIn wsX5_schedule (wsV RX5 147 RX0 yX0_plan wsX0_plan) := goodIn_app (goodIn_of _ (by decide +kernel)) ggX5_schedule_X0_plan
theorem dX5_schedule_0 : decode cX5_schedule 0 = .ok (.aload_n 0, 1) := by decide +kernel
theorem dX5_schedule_1 : decode cX5_schedule 1 = .ok (.iload_n 1, 1) := by decide +kernel
theorem dX5_schedule_2 : decode cX5_schedule 2 = .ok (.invokevirtual 125, 3) := by decide +kernel
theorem dX5_schedule_5 : decode cX5_schedule 5 = .ok (.ifCond .ne 5, 3) := by decide +kernel
theorem dX5_schedule_8 : decode cX5_schedule 8 = .ok (.iconst (-1), 1) := by decide +kernel
theorem dX5_schedule_9 : decode cX5_schedule 9 = .ok (.ireturn, 1) := by decide +kernel
theorem dX5_schedule_10 : decode cX5_schedule 10 = .ok (.iload_n 2, 1) := by decide +kernel
theorem dX5_schedule_11 : decode cX5_schedule 11 = .ok (.invokestatic 96, 3) := by decide +kernel
theorem dX5_schedule_14 : decode cX5_schedule 14 = .ok (.ifCond .eq 15, 3) := by decide +kernel
theorem dX5_schedule_17 : decode cX5_schedule 17 = .ok (.iload_n 3, 1) := by decide +kernel
theorem dX5_schedule_18 : decode cX5_schedule 18 = .ok (.iconst 1, 1) := by decide +kernel
theorem dX5_schedule_19 : decode cX5_schedule 19 = .ok (.if_icmp .lt 10, 3) := by decide +kernel
theorem dX5_schedule_22 : decode cX5_schedule 22 = .ok (.iload_n 3, 1) := by decide +kernel
theorem dX5_schedule_23 : decode cX5_schedule 23 = .ok (.sipush 1000, 3) := by decide +kernel
theorem dX5_schedule_26 : decode cX5_schedule 26 = .ok (.if_icmp .le 6, 3) := by decide +kernel
theorem dX5_schedule_29 : decode cX5_schedule 29 = .ok (.bipush (-2), 2) := by decide +kernel
theorem dX5_schedule_31 : decode cX5_schedule 31 = .ok (.ireturn, 1) := by decide +kernel
theorem dX5_schedule_32 : decode cX5_schedule 32 = .ok (.aload_n 0, 1) := by decide +kernel
theorem dX5_schedule_33 : decode cX5_schedule 33 = .ok (.getfield 49, 3) := by decide +kernel
theorem dX5_schedule_36 : decode cX5_schedule 36 = .ok (.iload_n 1, 1) := by decide +kernel
theorem dX5_schedule_37 : decode cX5_schedule 37 = .ok (.aaload, 1) := by decide +kernel
theorem dX5_schedule_38 : decode cX5_schedule 38 = .ok (.iload_n 2, 1) := by decide +kernel
theorem dX5_schedule_39 : decode cX5_schedule 39 = .ok (.iload_n 3, 1) := by decide +kernel
theorem dX5_schedule_40 : decode cX5_schedule 40 = .ok (.invokevirtual 147, 3) := by decide +kernel
theorem dX5_schedule_43 : decode cX5_schedule 43 = .ok (.iconst 1, 1) := by decide +kernel
theorem dX5_schedule_44 : decode cX5_schedule 44 = .ok (.ireturn, 1) := by decide +kernel
set_option maxRecDepth 20000 in
theorem ggX5_due_X5_isDay : GoodIn wsX5_due wsX5_isDay := goodIn_r _ [10, 11] (by decide +kernel) (by decide +kernel)
set_option maxRecDepth 20000 in
theorem gX5_due_X5_isDay : GoodIn wsX5_due (va_wsS RX5 96 yX5_isDay wsX5_isDay) := goodIn_app (goodIn_of _ (by decide +kernel)) ggX5_due_X5_isDay
set_option maxRecDepth 20000 in
theorem ggX5_due_X5_longestWaiting : GoodIn wsX5_due wsX5_longestWaiting := goodIn_r _ [15, 16, 6, 17, 18, 19, 20, 21, 22, 23, 148, 149, 150, 151, 152, 153, 154, 155, 156, 157, 158, 159, 160, 161, 162, 163, 164, 165, 166, 167, 168] (by decide +kernel) (by decide +kernel)
set_option maxRecDepth 20000 in
theorem gX5_due_X5_longestWaiting : GoodIn wsX5_due (wsV RX5 153 RX5 yX5_longestWaiting wsX5_longestWaiting) := goodIn_app (goodIn_of _ (by decide +kernel)) ggX5_due_X5_longestWaiting
set_option maxRecDepth 20000 in
theorem ggX5_due_X5_check : GoodIn wsX5_due wsX5_check := goodIn_r _ [27, 6, 28, 29, 30, 31, 9, 32, 33, 34, 35, 36, 37, 38, 39, 40, 41, 42, 43, 44, 45, 46, 47, 48, 49, 50, 51, 52, 53, 54, 55, 56, 57, 58, 59, 60, 61, 62, 63, 64, 65, 66, 67, 68, 69, 70, 71, 72, 73, 74, 75, 76, 77, 78, 79, 80, 81, 82, 83, 84, 85, 86, 87, 88, 89, 90, 91, 92, 93, 94, 95, 96, 97, 98, 99, 100, 101, 102, 103, 104, 105, 106, 107, 108, 109, 110, 111, 112, 113, 114, 115, 116, 117, 118, 119, 120, 121, 122, 123, 124, 125, 126, 127, 128, 129, 130, 131, 132, 133, 134, 135, 136, 137, 138, 148, 149, 150, 151, 152, 153, 154, 155, 156, 157, 158, 159, 160, 161, 162, 163, 164, 165, 166, 167, 168, 169, 170, 171, 172, 173, 174, 175, 176, 177, 178, 179, 180] (by decide +kernel) (by decide +kernel)
set_option maxRecDepth 20000 in
theorem gX5_due_X5_check : GoodIn wsX5_due (wsV RX5 143 RX5 yX5_check wsX5_check) := goodIn_app (goodIn_of _ (by decide +kernel)) ggX5_due_X5_check
set_option maxRecDepth 20000 in
theorem ggX5_due_X0_planBehind : GoodIn wsX5_due wsX0_planBehind := goodIn_r _ [142, 23, 22, 143, 18, 19, 20, 21, 161, 162, 163, 164, 165, 166, 167, 168] (by decide +kernel) (by decide +kernel)
set_option maxRecDepth 20000 in
theorem gX5_due_X0_planBehind : GoodIn wsX5_due (wsV RX5 156 RX0 yX0_planBehind wsX0_planBehind) := goodIn_app (goodIn_of _ (by decide +kernel)) ggX5_due_X0_planBehind
set_option maxRecDepth 20000 in
theorem ggX5_due_X5_countWaiting : GoodIn wsX5_due wsX5_countWaiting := goodIn_r _ [147, 16, 6, 17, 18, 19, 20, 21, 22, 23, 148, 149, 150, 151, 152, 153, 154, 155, 156, 157, 158, 159, 160, 161, 162, 163, 164, 165, 166, 167, 168] (by decide +kernel) (by decide +kernel)
set_option maxRecDepth 20000 in
theorem gX5_due_X5_countWaiting : GoodIn wsX5_due (wsV RX5 159 RX5 yX5_countWaiting wsX5_countWaiting) := goodIn_app (goodIn_of _ (by decide +kernel)) ggX5_due_X5_countWaiting
theorem dX5_due_0 : decode cX5_due 0 = .ok (.iload_n 1, 1) := by decide +kernel
theorem dX5_due_1 : decode cX5_due 1 = .ok (.invokestatic 96, 3) := by decide +kernel
theorem dX5_due_4 : decode cX5_due 4 = .ok (.ifCond .ne 6, 3) := by decide +kernel
theorem dX5_due_7 : decode cX5_due 7 = .ok (.bipush (-2), 2) := by decide +kernel
theorem dX5_due_9 : decode cX5_due 9 = .ok (.ireturn, 1) := by decide +kernel
theorem dX5_due_10 : decode cX5_due 10 = .ok (.iload_n 1, 1) := by decide +kernel
theorem dX5_due_11 : decode cX5_due 11 = .ok (.aload_n 0, 1) := by decide +kernel
theorem dX5_due_12 : decode cX5_due 12 = .ok (.getfield 68, 3) := by decide +kernel
theorem dX5_due_15 : decode cX5_due 15 = .ok (.if_icmp .ge 6, 3) := by decide +kernel
theorem dX5_due_18 : decode cX5_due 18 = .ok (.bipush (-3), 2) := by decide +kernel
theorem dX5_due_20 : decode cX5_due 20 = .ok (.ireturn, 1) := by decide +kernel
theorem dX5_due_21 : decode cX5_due 21 = .ok (.aload_n 0, 1) := by decide +kernel
theorem dX5_due_22 : decode cX5_due 22 = .ok (.iload_n 1, 1) := by decide +kernel
theorem dX5_due_23 : decode cX5_due 23 = .ok (.putfield 68, 3) := by decide +kernel
theorem dX5_due_26 : decode cX5_due 26 = .ok (.aload_n 0, 1) := by decide +kernel
theorem dX5_due_27 : decode cX5_due 27 = .ok (.iconst 0, 1) := by decide +kernel
theorem dX5_due_28 : decode cX5_due 28 = .ok (.putfield 150, 3) := by decide +kernel
theorem dX5_due_31 : decode cX5_due 31 = .ok (.iconst 0, 1) := by decide +kernel
theorem dX5_due_32 : decode cX5_due 32 = .ok (.istore_n 2, 1) := by decide +kernel
theorem dX5_due_33 : decode cX5_due 33 = .ok (.iload_n 2, 1) := by decide +kernel
theorem dX5_due_34 : decode cX5_due 34 = .ok (.aload_n 0, 1) := by decide +kernel
theorem dX5_due_35 : decode cX5_due 35 = .ok (.getfield 18, 3) := by decide +kernel
theorem dX5_due_38 : decode cX5_due 38 = .ok (.if_icmp .ge 59, 3) := by decide +kernel
theorem dX5_due_41 : decode cX5_due 41 = .ok (.aload_n 0, 1) := by decide +kernel
theorem dX5_due_42 : decode cX5_due 42 = .ok (.iload_n 1, 1) := by decide +kernel
theorem dX5_due_43 : decode cX5_due 43 = .ok (.invokevirtual 153, 3) := by decide +kernel
theorem dX5_due_46 : decode cX5_due 46 = .ok (.istore_n 3, 1) := by decide +kernel
theorem dX5_due_47 : decode cX5_due 47 = .ok (.iload_n 3, 1) := by decide +kernel
theorem dX5_due_48 : decode cX5_due 48 = .ok (.iconst (-1), 1) := by decide +kernel
theorem dX5_due_49 : decode cX5_due 49 = .ok (.if_icmp .ne 6, 3) := by decide +kernel
theorem dX5_due_52 : decode cX5_due 52 = .ok (.goto 45, 3) := by decide +kernel
theorem dX5_due_55 : decode cX5_due 55 = .ok (.aload_n 0, 1) := by decide +kernel
theorem dX5_due_56 : decode cX5_due 56 = .ok (.getfield 61, 3) := by decide +kernel
theorem dX5_due_59 : decode cX5_due 59 = .ok (.iload_n 2, 1) := by decide +kernel
theorem dX5_due_60 : decode cX5_due 60 = .ok (.iload_n 3, 1) := by decide +kernel
theorem dX5_due_61 : decode cX5_due 61 = .ok (.iastore, 1) := by decide +kernel
theorem dX5_due_62 : decode cX5_due 62 = .ok (.aload_n 0, 1) := by decide +kernel
theorem dX5_due_63 : decode cX5_due 63 = .ok (.getfield 64, 3) := by decide +kernel
theorem dX5_due_66 : decode cX5_due 66 = .ok (.iload_n 2, 1) := by decide +kernel
theorem dX5_due_67 : decode cX5_due 67 = .ok (.aload_n 0, 1) := by decide +kernel
theorem dX5_due_68 : decode cX5_due 68 = .ok (.iload_n 3, 1) := by decide +kernel
theorem dX5_due_69 : decode cX5_due 69 = .ok (.iload_n 1, 1) := by decide +kernel
theorem dX5_due_70 : decode cX5_due 70 = .ok (.invokevirtual 143, 3) := by decide +kernel
theorem dX5_due_73 : decode cX5_due 73 = .ok (.bastore, 1) := by decide +kernel
theorem dX5_due_74 : decode cX5_due 74 = .ok (.aload_n 0, 1) := by decide +kernel
theorem dX5_due_75 : decode cX5_due 75 = .ok (.iload_n 2, 1) := by decide +kernel
theorem dX5_due_76 : decode cX5_due 76 = .ok (.iconst 1, 1) := by decide +kernel
theorem dX5_due_77 : decode cX5_due 77 = .ok (.iadd, 1) := by decide +kernel
theorem dX5_due_78 : decode cX5_due 78 = .ok (.putfield 150, 3) := by decide +kernel
theorem dX5_due_81 : decode cX5_due 81 = .ok (.aload_n 0, 1) := by decide +kernel
theorem dX5_due_82 : decode cX5_due 82 = .ok (.getfield 49, 3) := by decide +kernel
theorem dX5_due_85 : decode cX5_due 85 = .ok (.iload_n 3, 1) := by decide +kernel
theorem dX5_due_86 : decode cX5_due 86 = .ok (.aaload, 1) := by decide +kernel
theorem dX5_due_87 : decode cX5_due 87 = .ok (.iload_n 1, 1) := by decide +kernel
theorem dX5_due_88 : decode cX5_due 88 = .ok (.invokevirtual 156, 3) := by decide +kernel
theorem dX5_due_91 : decode cX5_due 91 = .ok (.iinc 2 1, 3) := by decide +kernel
theorem dX5_due_94 : decode cX5_due 94 = .ok (.goto (-61), 3) := by decide +kernel
theorem dX5_due_97 : decode cX5_due 97 = .ok (.aload_n 0, 1) := by decide +kernel
theorem dX5_due_98 : decode cX5_due 98 = .ok (.iload_n 1, 1) := by decide +kernel
theorem dX5_due_99 : decode cX5_due 99 = .ok (.invokevirtual 159, 3) := by decide +kernel
theorem dX5_due_102 : decode cX5_due 102 = .ok (.istore_n 2, 1) := by decide +kernel
theorem dX5_due_103 : decode cX5_due 103 = .ok (.iload_n 2, 1) := by decide +kernel
theorem dX5_due_104 : decode cX5_due 104 = .ok (.ifCond .ne 10, 3) := by decide +kernel
theorem dX5_due_107 : decode cX5_due 107 = .ok (.aload_n 0, 1) := by decide +kernel
theorem dX5_due_108 : decode cX5_due 108 = .ok (.getfield 150, 3) := by decide +kernel
theorem dX5_due_111 : decode cX5_due 111 = .ok (.goto 7, 3) := by decide +kernel
theorem dX5_due_114 : decode cX5_due 114 = .ok (.bipush (-10), 2) := by decide +kernel
theorem dX5_due_116 : decode cX5_due 116 = .ok (.iload_n 2, 1) := by decide +kernel
theorem dX5_due_117 : decode cX5_due 117 = .ok (.isub, 1) := by decide +kernel
theorem dX5_due_118 : decode cX5_due 118 = .ok (.ireturn, 1) := by decide +kernel
theorem dX5_told_0 : decode cX5_told 0 = .ok (.iload_n 1, 1) := by decide +kernel
theorem dX5_told_1 : decode cX5_told 1 = .ok (.ifCond .lt 11, 3) := by decide +kernel
theorem dX5_told_4 : decode cX5_told 4 = .ok (.iload_n 1, 1) := by decide +kernel
theorem dX5_told_5 : decode cX5_told 5 = .ok (.aload_n 0, 1) := by decide +kernel
theorem dX5_told_6 : decode cX5_told 6 = .ok (.getfield 150, 3) := by decide +kernel
theorem dX5_told_9 : decode cX5_told 9 = .ok (.if_icmp .lt 5, 3) := by decide +kernel
theorem dX5_told_12 : decode cX5_told 12 = .ok (.iconst (-1), 1) := by decide +kernel
theorem dX5_told_13 : decode cX5_told 13 = .ok (.ireturn, 1) := by decide +kernel
theorem dX5_told_14 : decode cX5_told 14 = .ok (.iload_n 2, 1) := by decide +kernel
theorem dX5_told_15 : decode cX5_told 15 = .ok (.lookupswitch 47 #[(0, 25), (1, 32)], 25) := by decide +kernel
theorem dX5_told_40 : decode cX5_told 40 = .ok (.aload_n 0, 1) := by decide +kernel
theorem dX5_told_41 : decode cX5_told 41 = .ok (.getfield 61, 3) := by decide +kernel
theorem dX5_told_44 : decode cX5_told 44 = .ok (.iload_n 1, 1) := by decide +kernel
theorem dX5_told_45 : decode cX5_told 45 = .ok (.iaload, 1) := by decide +kernel
theorem dX5_told_46 : decode cX5_told 46 = .ok (.ireturn, 1) := by decide +kernel
theorem dX5_told_47 : decode cX5_told 47 = .ok (.aload_n 0, 1) := by decide +kernel
theorem dX5_told_48 : decode cX5_told 48 = .ok (.getfield 64, 3) := by decide +kernel
theorem dX5_told_51 : decode cX5_told 51 = .ok (.iload_n 1, 1) := by decide +kernel
theorem dX5_told_52 : decode cX5_told 52 = .ok (.baload, 1) := by decide +kernel
theorem dX5_told_53 : decode cX5_told 53 = .ok (.ifCond .eq 7, 3) := by decide +kernel
theorem dX5_told_56 : decode cX5_told 56 = .ok (.iconst 1, 1) := by decide +kernel
theorem dX5_told_57 : decode cX5_told 57 = .ok (.goto 4, 3) := by decide +kernel
theorem dX5_told_60 : decode cX5_told 60 = .ok (.iconst 0, 1) := by decide +kernel
theorem dX5_told_61 : decode cX5_told 61 = .ok (.ireturn, 1) := by decide +kernel
theorem dX5_told_62 : decode cX5_told 62 = .ok (.iconst (-1), 1) := by decide +kernel
theorem dX5_told_63 : decode cX5_told 63 = .ok (.ireturn, 1) := by decide +kernel
set_option maxRecDepth 20000 in
theorem ggX5_mend_X5_isFile : GoodIn wsX5_mend wsX5_isFile := goodIn_r _ [7, 8, 131, 132, 133, 134, 135, 136, 137, 138, 139, 140, 141, 142, 143] (by decide +kernel) (by decide +kernel)
set_option maxRecDepth 20000 in
theorem gX5_mend_X5_isFile : GoodIn wsX5_mend (wsV RX5 125 RX5 yX5_isFile wsX5_isFile) := goodIn_app (goodIn_of _ (by decide +kernel)) ggX5_mend_X5_isFile
set_option maxRecDepth 20000 in
theorem ggX5_mend_X5_isDay : GoodIn wsX5_mend wsX5_isDay := goodIn_r _ [11, 12] (by decide +kernel) (by decide +kernel)
set_option maxRecDepth 20000 in
theorem gX5_mend_X5_isDay : GoodIn wsX5_mend (va_wsS RX5 96 yX5_isDay wsX5_isDay) := goodIn_app (goodIn_of _ (by decide +kernel)) ggX5_mend_X5_isDay
set_option maxRecDepth 20000 in
theorem ggX5_mend_X5_matches : GoodIn wsX5_mend wsX5_matches := goodIn_r _ [16, 17, 18, 19, 20, 21, 22, 23, 24, 25, 26, 27, 28, 29, 30, 31, 32, 33, 34, 35, 36, 37, 38, 39, 40, 41, 42, 43, 44, 45, 46, 47, 48, 49, 50, 51, 52, 53, 54, 55, 56, 57, 58, 59, 60, 61, 62, 63, 64, 65, 66, 67, 68, 69, 70, 71, 72, 73, 144, 145, 146, 147, 148, 149, 150, 151, 131, 132, 133, 134, 135, 136, 137, 138, 139, 140, 141, 142, 143, 152, 153, 154, 155, 156] (by decide +kernel) (by decide +kernel)
set_option maxRecDepth 20000 in
theorem gX5_mend_X5_matches : GoodIn wsX5_mend (wsV RX5 162 RX5 yX5_matches wsX5_matches) := goodIn_app (goodIn_of _ (by decide +kernel)) ggX5_mend_X5_matches
set_option maxRecDepth 20000 in
theorem ggX5_mend_X5_firstCopyFor : GoodIn wsX5_mend wsX5_firstCopyFor := goodIn_r _ [77, 8, 1, 13, 14, 15, 6, 16, 17, 18, 19, 20, 21, 22, 23, 24, 25, 26, 27, 28, 29, 30, 31, 32, 33, 34, 35, 36, 37, 38, 39, 40, 41, 42, 43, 44, 45, 46, 47, 48, 49, 50, 51, 52, 53, 54, 55, 56, 57, 58, 59, 60, 61, 62, 63, 64, 65, 66, 67, 68, 69, 70, 71, 72, 73, 131, 132, 133, 134, 135, 136, 137, 138, 139, 140, 141, 142, 143, 144, 145, 146, 147, 148, 149, 150, 151, 152, 153, 154, 155, 156] (by decide +kernel) (by decide +kernel)
set_option maxRecDepth 20000 in
theorem gX5_mend_X5_firstCopyFor : GoodIn wsX5_mend (wsV RX5 166 RX5 yX5_firstCopyFor wsX5_firstCopyFor) := goodIn_app (goodIn_of _ (by decide +kernel)) ggX5_mend_X5_firstCopyFor
set_option maxRecDepth 20000 in
theorem ggX5_mend_X2_copyFrom : GoodIn wsX5_mend wsX2_copyFrom := goodIn_r _ [81, 30, 35, 153, 154] (by decide +kernel) (by decide +kernel)
set_option maxRecDepth 20000 in
theorem gX5_mend_X2_copyFrom : GoodIn wsX5_mend (wsV RX5 106 RX2 yX2_copyFrom wsX2_copyFrom) := goodIn_app (goodIn_of _ (by decide +kernel)) ggX5_mend_X2_copyFrom
set_option maxRecDepth 20000 in
theorem ggX5_mend_X3_append : GoodIn wsX5_mend wsX3_append := goodIn_r _ [86, 87, 88, 89, 90, 91, 92, 93, 94, 95, 85, 96, 97, 98, 99, 100, 28, 101, 30, 102, 103, 104, 105, 106, 107, 108, 109, 110, 111, 112, 113, 35, 114, 115, 116, 117, 118, 119, 120, 121, 122, 123, 124, 125, 126, 37, 38, 39, 40, 41, 42, 43, 44, 26, 27, 29, 45, 46, 47, 48, 32, 33, 34, 49, 50, 51, 52, 53, 54, 55, 56, 57, 58, 59, 60, 61, 62, 63, 64, 65, 66, 67, 68, 69, 127, 128, 129, 130, 157, 158, 159, 160, 161, 162, 163, 153, 154, 155, 156] (by decide +kernel) (by decide +kernel)
set_option maxRecDepth 20000 in
theorem gX5_mend_X3_append : GoodIn wsX5_mend (wsV RX5 121 RX3 yX3_append wsX3_append) := goodIn_app (goodIn_of _ (by decide +kernel)) ggX5_mend_X3_append
theorem dX5_mend_0 : decode cX5_mend 0 = .ok (.aload_n 0, 1) := by decide +kernel
theorem dX5_mend_1 : decode cX5_mend 1 = .ok (.iload_n 1, 1) := by decide +kernel
theorem dX5_mend_2 : decode cX5_mend 2 = .ok (.invokevirtual 125, 3) := by decide +kernel
theorem dX5_mend_5 : decode cX5_mend 5 = .ok (.ifCond .ne 5, 3) := by decide +kernel
theorem dX5_mend_8 : decode cX5_mend 8 = .ok (.iconst (-1), 1) := by decide +kernel
theorem dX5_mend_9 : decode cX5_mend 9 = .ok (.ireturn, 1) := by decide +kernel
theorem dX5_mend_10 : decode cX5_mend 10 = .ok (.iload_n 2, 1) := by decide +kernel
theorem dX5_mend_11 : decode cX5_mend 11 = .ok (.invokestatic 96, 3) := by decide +kernel
theorem dX5_mend_14 : decode cX5_mend 14 = .ok (.ifCond .ne 6, 3) := by decide +kernel
theorem dX5_mend_17 : decode cX5_mend 17 = .ok (.bipush (-2), 2) := by decide +kernel
theorem dX5_mend_19 : decode cX5_mend 19 = .ok (.ireturn, 1) := by decide +kernel
theorem dX5_mend_20 : decode cX5_mend 20 = .ok (.aload_n 0, 1) := by decide +kernel
theorem dX5_mend_21 : decode cX5_mend 21 = .ok (.getfield 49, 3) := by decide +kernel
theorem dX5_mend_24 : decode cX5_mend 24 = .ok (.iload_n 1, 1) := by decide +kernel
theorem dX5_mend_25 : decode cX5_mend 25 = .ok (.aaload, 1) := by decide +kernel
theorem dX5_mend_26 : decode cX5_mend 26 = .ok (.astore_n 3, 1) := by decide +kernel
theorem dX5_mend_27 : decode cX5_mend 27 = .ok (.aload_n 0, 1) := by decide +kernel
theorem dX5_mend_28 : decode cX5_mend 28 = .ok (.aload_n 3, 1) := by decide +kernel
theorem dX5_mend_29 : decode cX5_mend 29 = .ok (.getfield 103, 3) := by decide +kernel
theorem dX5_mend_32 : decode cX5_mend 32 = .ok (.aload_n 3, 1) := by decide +kernel
theorem dX5_mend_33 : decode cX5_mend 33 = .ok (.invokevirtual 162, 3) := by decide +kernel
theorem dX5_mend_36 : decode cX5_mend 36 = .ok (.ifCond .eq 6, 3) := by decide +kernel
theorem dX5_mend_39 : decode cX5_mend 39 = .ok (.bipush (-3), 2) := by decide +kernel
theorem dX5_mend_41 : decode cX5_mend 41 = .ok (.ireturn, 1) := by decide +kernel
theorem dX5_mend_42 : decode cX5_mend 42 = .ok (.aload_n 0, 1) := by decide +kernel
theorem dX5_mend_43 : decode cX5_mend 43 = .ok (.aload_n 3, 1) := by decide +kernel
theorem dX5_mend_44 : decode cX5_mend 44 = .ok (.invokevirtual 166, 3) := by decide +kernel
theorem dX5_mend_47 : decode cX5_mend 47 = .ok (.istore 4, 2) := by decide +kernel
theorem dX5_mend_49 : decode cX5_mend 49 = .ok (.iload 4, 2) := by decide +kernel
theorem dX5_mend_51 : decode cX5_mend 51 = .ok (.iconst (-1), 1) := by decide +kernel
theorem dX5_mend_52 : decode cX5_mend 52 = .ok (.if_icmp .ne 6, 3) := by decide +kernel
theorem dX5_mend_55 : decode cX5_mend 55 = .ok (.bipush (-10), 2) := by decide +kernel
theorem dX5_mend_57 : decode cX5_mend 57 = .ok (.ireturn, 1) := by decide +kernel
theorem dX5_mend_58 : decode cX5_mend 58 = .ok (.aload_n 3, 1) := by decide +kernel
theorem dX5_mend_59 : decode cX5_mend 59 = .ok (.getfield 103, 3) := by decide +kernel
theorem dX5_mend_62 : decode cX5_mend 62 = .ok (.aload_n 0, 1) := by decide +kernel
theorem dX5_mend_63 : decode cX5_mend 63 = .ok (.getfield 49, 3) := by decide +kernel
theorem dX5_mend_66 : decode cX5_mend 66 = .ok (.iload 4, 2) := by decide +kernel
theorem dX5_mend_68 : decode cX5_mend 68 = .ok (.aaload, 1) := by decide +kernel
theorem dX5_mend_69 : decode cX5_mend 69 = .ok (.getfield 103, 3) := by decide +kernel
theorem dX5_mend_72 : decode cX5_mend 72 = .ok (.invokevirtual 106, 3) := by decide +kernel
theorem dX5_mend_75 : decode cX5_mend 75 = .ok (.aload_n 3, 1) := by decide +kernel
theorem dX5_mend_76 : decode cX5_mend 76 = .ok (.dup, 1) := by decide +kernel
theorem dX5_mend_77 : decode cX5_mend 77 = .ok (.getfield 170, 3) := by decide +kernel
theorem dX5_mend_80 : decode cX5_mend 80 = .ok (.iconst 1, 1) := by decide +kernel
theorem dX5_mend_81 : decode cX5_mend 81 = .ok (.iadd, 1) := by decide +kernel
theorem dX5_mend_82 : decode cX5_mend 82 = .ok (.putfield 170, 3) := by decide +kernel
theorem dX5_mend_85 : decode cX5_mend 85 = .ok (.aload_n 0, 1) := by decide +kernel
theorem dX5_mend_86 : decode cX5_mend 86 = .ok (.getfield 57, 3) := by decide +kernel
theorem dX5_mend_89 : decode cX5_mend 89 = .ok (.iconst 3, 1) := by decide +kernel
theorem dX5_mend_90 : decode cX5_mend 90 = .ok (.iload_n 1, 1) := by decide +kernel
theorem dX5_mend_91 : decode cX5_mend 91 = .ok (.iload_n 2, 1) := by decide +kernel
theorem dX5_mend_92 : decode cX5_mend 92 = .ok (.invokevirtual 121, 3) := by decide +kernel
theorem dX5_mend_95 : decode cX5_mend 95 = .ok (.iload 4, 2) := by decide +kernel
theorem dX5_mend_97 : decode cX5_mend 97 = .ok (.ireturn, 1) := by decide +kernel
set_option maxRecDepth 20000 in
theorem ggX5_about_X5_isFile : GoodIn wsX5_about wsX5_isFile := goodIn_r _ [6, 7, 14, 15, 16, 17, 18, 19, 20, 21, 22, 23, 24, 25, 26] (by decide +kernel) (by decide +kernel)
set_option maxRecDepth 20000 in
theorem gX5_about_X5_isFile : GoodIn wsX5_about (wsV RX5 125 RX5 yX5_isFile wsX5_isFile) := goodIn_app (goodIn_of _ (by decide +kernel)) ggX5_about_X5_isFile
set_option maxRecDepth 20000 in
theorem ggX5_about_X2_count : GoodIn wsX5_about wsX2_count := goodIn_r _ [12, 13, 35, 36] (by decide +kernel) (by decide +kernel)
set_option maxRecDepth 20000 in
theorem gX5_about_X2_count : GoodIn wsX5_about (wsV RX5 139 RX2 yX2_count wsX2_count) := goodIn_app (goodIn_of _ (by decide +kernel)) ggX5_about_X2_count
theorem dX5_about_0 : decode cX5_about 0 = .ok (.aload_n 0, 1) := by decide +kernel
theorem dX5_about_1 : decode cX5_about 1 = .ok (.iload_n 1, 1) := by decide +kernel
theorem dX5_about_2 : decode cX5_about 2 = .ok (.invokevirtual 125, 3) := by decide +kernel
theorem dX5_about_5 : decode cX5_about 5 = .ok (.ifCond .ne 5, 3) := by decide +kernel
theorem dX5_about_8 : decode cX5_about 8 = .ok (.iconst (-1), 1) := by decide +kernel
theorem dX5_about_9 : decode cX5_about 9 = .ok (.ireturn, 1) := by decide +kernel
theorem dX5_about_10 : decode cX5_about 10 = .ok (.aload_n 0, 1) := by decide +kernel
theorem dX5_about_11 : decode cX5_about 11 = .ok (.getfield 49, 3) := by decide +kernel
theorem dX5_about_14 : decode cX5_about 14 = .ok (.iload_n 1, 1) := by decide +kernel
theorem dX5_about_15 : decode cX5_about 15 = .ok (.aaload, 1) := by decide +kernel
theorem dX5_about_16 : decode cX5_about 16 = .ok (.astore_n 3, 1) := by decide +kernel
theorem dX5_about_17 : decode cX5_about 17 = .ok (.iload_n 2, 1) := by decide +kernel
theorem dX5_about_18 : decode cX5_about 18 = .ok (.tableswitch 53 0 3 #[30, 38, 43, 48], 30) := by decide +kernel
theorem dX5_about_48 : decode cX5_about 48 = .ok (.aload_n 3, 1) := by decide +kernel
theorem dX5_about_49 : decode cX5_about 49 = .ok (.getfield 103, 3) := by decide +kernel
theorem dX5_about_52 : decode cX5_about 52 = .ok (.invokevirtual 139, 3) := by decide +kernel
theorem dX5_about_55 : decode cX5_about 55 = .ok (.ireturn, 1) := by decide +kernel
theorem dX5_about_56 : decode cX5_about 56 = .ok (.aload_n 3, 1) := by decide +kernel
theorem dX5_about_57 : decode cX5_about 57 = .ok (.getfield 173, 3) := by decide +kernel
theorem dX5_about_60 : decode cX5_about 60 = .ok (.ireturn, 1) := by decide +kernel
theorem dX5_about_61 : decode cX5_about 61 = .ok (.aload_n 3, 1) := by decide +kernel
theorem dX5_about_62 : decode cX5_about 62 = .ok (.getfield 176, 3) := by decide +kernel
theorem dX5_about_65 : decode cX5_about 65 = .ok (.ireturn, 1) := by decide +kernel
theorem dX5_about_66 : decode cX5_about 66 = .ok (.aload_n 3, 1) := by decide +kernel
theorem dX5_about_67 : decode cX5_about 67 = .ok (.getfield 170, 3) := by decide +kernel
theorem dX5_about_70 : decode cX5_about 70 = .ok (.ireturn, 1) := by decide +kernel
theorem dX5_about_71 : decode cX5_about 71 = .ok (.iconst (-1), 1) := by decide +kernel
theorem dX5_about_72 : decode cX5_about 72 = .ok (.ireturn, 1) := by decide +kernel
set_option maxRecDepth 20000 in
theorem ggX5_row_X3_has : GoodIn wsX5_row wsX3_has := goodIn_r _ [6, 7, 42, 43, 44, 45, 46, 47, 48] (by decide +kernel) (by decide +kernel)
set_option maxRecDepth 20000 in
theorem gX5_row_X3_has : GoodIn wsX5_row (wsV RX5 179 RX3 yX3_has wsX3_has) := goodIn_app (goodIn_of _ (by decide +kernel)) ggX5_row_X3_has
set_option maxRecDepth 20000 in
theorem ggX5_row_X3_kindOf : GoodIn wsX5_row wsX3_kindOf := goodIn_r _ [11, 12, 13, 3, 4, 5, 6, 7, 42, 43, 44, 45, 46, 47, 48] (by decide +kernel) (by decide +kernel)
set_option maxRecDepth 20000 in
theorem gX5_row_X3_kindOf : GoodIn wsX5_row (wsV RX5 180 RX3 yX3_kindOf wsX3_kindOf) := goodIn_app (goodIn_of _ (by decide +kernel)) ggX5_row_X3_kindOf
set_option maxRecDepth 20000 in
theorem ggX5_row_X3_fileOf : GoodIn wsX5_row wsX3_fileOf := goodIn_r _ [17, 18, 13, 3, 4, 5, 6, 7, 42, 43, 44, 45, 46, 47, 48] (by decide +kernel) (by decide +kernel)
set_option maxRecDepth 20000 in
theorem gX5_row_X3_fileOf : GoodIn wsX5_row (wsV RX5 183 RX3 yX3_fileOf wsX3_fileOf) := goodIn_app (goodIn_of _ (by decide +kernel)) ggX5_row_X3_fileOf
set_option maxRecDepth 20000 in
theorem ggX5_row_X3_dayOf : GoodIn wsX5_row wsX3_dayOf := goodIn_r _ [22, 23, 13, 3, 4, 5, 6, 7, 42, 43, 44, 45, 46, 47, 48] (by decide +kernel) (by decide +kernel)
set_option maxRecDepth 20000 in
theorem gX5_row_X3_dayOf : GoodIn wsX5_row (wsV RX5 186 RX3 yX3_dayOf wsX3_dayOf) := goodIn_app (goodIn_of _ (by decide +kernel)) ggX5_row_X3_dayOf
set_option maxRecDepth 20000 in
theorem ggX5_row_X3_firstWordOf : GoodIn wsX5_row wsX3_firstWordOf := goodIn_r _ [27, 28, 13, 3, 4, 5, 6, 7, 42, 43, 44, 45, 46, 47, 48] (by decide +kernel) (by decide +kernel)
set_option maxRecDepth 20000 in
theorem gX5_row_X3_firstWordOf : GoodIn wsX5_row (wsV RX5 189 RX3 yX3_firstWordOf wsX3_firstWordOf) := goodIn_app (goodIn_of _ (by decide +kernel)) ggX5_row_X3_firstWordOf
theorem dX5_row_0 : decode cX5_row 0 = .ok (.aload_n 0, 1) := by decide +kernel
theorem dX5_row_1 : decode cX5_row 1 = .ok (.getfield 57, 3) := by decide +kernel
theorem dX5_row_4 : decode cX5_row 4 = .ok (.iload_n 1, 1) := by decide +kernel
theorem dX5_row_5 : decode cX5_row 5 = .ok (.invokevirtual 179, 3) := by decide +kernel
theorem dX5_row_8 : decode cX5_row 8 = .ok (.ifCond .ne 5, 3) := by decide +kernel
theorem dX5_row_11 : decode cX5_row 11 = .ok (.iconst (-1), 1) := by decide +kernel
theorem dX5_row_12 : decode cX5_row 12 = .ok (.ireturn, 1) := by decide +kernel
theorem dX5_row_13 : decode cX5_row 13 = .ok (.iload_n 2, 1) := by decide +kernel
theorem dX5_row_14 : decode cX5_row 14 = .ok (.tableswitch 66 0 3 #[30, 39, 48, 57], 30) := by decide +kernel
theorem dX5_row_44 : decode cX5_row 44 = .ok (.aload_n 0, 1) := by decide +kernel
theorem dX5_row_45 : decode cX5_row 45 = .ok (.getfield 57, 3) := by decide +kernel
theorem dX5_row_48 : decode cX5_row 48 = .ok (.iload_n 1, 1) := by decide +kernel
theorem dX5_row_49 : decode cX5_row 49 = .ok (.invokevirtual 180, 3) := by decide +kernel
theorem dX5_row_52 : decode cX5_row 52 = .ok (.ireturn, 1) := by decide +kernel
theorem dX5_row_53 : decode cX5_row 53 = .ok (.aload_n 0, 1) := by decide +kernel
theorem dX5_row_54 : decode cX5_row 54 = .ok (.getfield 57, 3) := by decide +kernel
theorem dX5_row_57 : decode cX5_row 57 = .ok (.iload_n 1, 1) := by decide +kernel
theorem dX5_row_58 : decode cX5_row 58 = .ok (.invokevirtual 183, 3) := by decide +kernel
theorem dX5_row_61 : decode cX5_row 61 = .ok (.ireturn, 1) := by decide +kernel
theorem dX5_row_62 : decode cX5_row 62 = .ok (.aload_n 0, 1) := by decide +kernel
theorem dX5_row_63 : decode cX5_row 63 = .ok (.getfield 57, 3) := by decide +kernel
theorem dX5_row_66 : decode cX5_row 66 = .ok (.iload_n 1, 1) := by decide +kernel
theorem dX5_row_67 : decode cX5_row 67 = .ok (.invokevirtual 186, 3) := by decide +kernel
theorem dX5_row_70 : decode cX5_row 70 = .ok (.ireturn, 1) := by decide +kernel
theorem dX5_row_71 : decode cX5_row 71 = .ok (.aload_n 0, 1) := by decide +kernel
theorem dX5_row_72 : decode cX5_row 72 = .ok (.getfield 57, 3) := by decide +kernel
theorem dX5_row_75 : decode cX5_row 75 = .ok (.iload_n 1, 1) := by decide +kernel
theorem dX5_row_76 : decode cX5_row 76 = .ok (.invokevirtual 189, 3) := by decide +kernel
theorem dX5_row_79 : decode cX5_row 79 = .ok (.ireturn, 1) := by decide +kernel
theorem dX5_row_80 : decode cX5_row 80 = .ok (.iconst (-1), 1) := by decide +kernel
theorem dX5_row_81 : decode cX5_row 81 = .ok (.ireturn, 1) := by decide +kernel
set_option maxRecDepth 20000 in
theorem ggX5_spoil_X3_has : GoodIn wsX5_spoil wsX3_has := goodIn_r _ [6, 7, 34, 35, 36, 37, 38, 39, 40] (by decide +kernel) (by decide +kernel)
set_option maxRecDepth 20000 in
theorem gX5_spoil_X3_has : GoodIn wsX5_spoil (wsV RX5 179 RX3 yX3_has wsX3_has) := goodIn_app (goodIn_of _ (by decide +kernel)) ggX5_spoil_X3_has
set_option maxRecDepth 20000 in
theorem ggX5_spoil_X3_remove : GoodIn wsX5_spoil wsX3_remove := goodIn_r _ [11, 7, 12, 13, 14, 15, 16, 3, 4, 5, 6, 34, 35, 36, 37, 38, 39, 40] (by decide +kernel) (by decide +kernel)
set_option maxRecDepth 20000 in
theorem gX5_spoil_X3_remove : GoodIn wsX5_spoil (wsV RX5 192 RX3 yX3_remove wsX3_remove) := goodIn_app (goodIn_of _ (by decide +kernel)) ggX5_spoil_X3_remove
set_option maxRecDepth 20000 in
theorem ggX5_spoil_X3_changeDay : GoodIn wsX5_spoil wsX3_changeDay := goodIn_r _ [20, 14, 16, 3, 4, 5, 6, 7, 34, 35, 36, 37, 38, 39, 40] (by decide +kernel) (by decide +kernel)
set_option maxRecDepth 20000 in
theorem gX5_spoil_X3_changeDay : GoodIn wsX5_spoil (wsV RX5 195 RX3 yX3_changeDay wsX3_changeDay) := goodIn_app (goodIn_of _ (by decide +kernel)) ggX5_spoil_X3_changeDay
theorem dX5_spoil_0 : decode cX5_spoil 0 = .ok (.aload_n 0, 1) := by decide +kernel
theorem dX5_spoil_1 : decode cX5_spoil 1 = .ok (.getfield 57, 3) := by decide +kernel
theorem dX5_spoil_4 : decode cX5_spoil 4 = .ok (.iload_n 1, 1) := by decide +kernel
theorem dX5_spoil_5 : decode cX5_spoil 5 = .ok (.invokevirtual 179, 3) := by decide +kernel
theorem dX5_spoil_8 : decode cX5_spoil 8 = .ok (.ifCond .ne 5, 3) := by decide +kernel
theorem dX5_spoil_11 : decode cX5_spoil 11 = .ok (.iconst (-1), 1) := by decide +kernel
theorem dX5_spoil_12 : decode cX5_spoil 12 = .ok (.ireturn, 1) := by decide +kernel
theorem dX5_spoil_13 : decode cX5_spoil 13 = .ok (.iload_n 2, 1) := by decide +kernel
theorem dX5_spoil_14 : decode cX5_spoil 14 = .ok (.ifCond .ne 13, 3) := by decide +kernel
theorem dX5_spoil_17 : decode cX5_spoil 17 = .ok (.aload_n 0, 1) := by decide +kernel
theorem dX5_spoil_18 : decode cX5_spoil 18 = .ok (.getfield 57, 3) := by decide +kernel
theorem dX5_spoil_21 : decode cX5_spoil 21 = .ok (.iload_n 1, 1) := by decide +kernel
theorem dX5_spoil_22 : decode cX5_spoil 22 = .ok (.invokevirtual 192, 3) := by decide +kernel
theorem dX5_spoil_25 : decode cX5_spoil 25 = .ok (.iconst 0, 1) := by decide +kernel
theorem dX5_spoil_26 : decode cX5_spoil 26 = .ok (.ireturn, 1) := by decide +kernel
theorem dX5_spoil_27 : decode cX5_spoil 27 = .ok (.aload_n 0, 1) := by decide +kernel
theorem dX5_spoil_28 : decode cX5_spoil 28 = .ok (.getfield 57, 3) := by decide +kernel
theorem dX5_spoil_31 : decode cX5_spoil 31 = .ok (.iload_n 1, 1) := by decide +kernel
theorem dX5_spoil_32 : decode cX5_spoil 32 = .ok (.iload_n 2, 1) := by decide +kernel
theorem dX5_spoil_33 : decode cX5_spoil 33 = .ok (.invokevirtual 195, 3) := by decide +kernel
theorem dX5_spoil_36 : decode cX5_spoil 36 = .ok (.iconst 1, 1) := by decide +kernel
theorem dX5_spoil_37 : decode cX5_spoil 37 = .ok (.ireturn, 1) := by decide +kernel
set_option maxRecDepth 20000 in
theorem ggX5_chain_X3_firstBroken : GoodIn wsX5_chain wsX3_firstBroken := goodIn_r _ [6, 7, 8, 9, 10, 11, 12, 5, 13, 14, 15, 16, 17, 18, 19, 20, 21, 22, 23, 24, 25, 26, 27, 28, 29, 30, 31, 32, 33, 34, 35, 36, 37, 38, 39, 40, 41, 42, 43, 44, 45, 46, 47, 48, 49, 50, 51, 52, 53, 54, 55, 56, 57, 58, 59, 60, 61, 62, 63, 64, 65, 66, 67, 68, 69, 70, 71, 72, 73, 74, 75, 76, 77, 78, 79, 80, 81, 82, 83, 84, 85, 86, 87, 88, 89, 90, 91, 92, 106, 107, 108, 109, 110, 111, 112, 113, 114, 115, 116] (by decide +kernel) (by decide +kernel)
set_option maxRecDepth 20000 in
theorem gX5_chain_X3_firstBroken : GoodIn wsX5_chain (wsV RX5 198 RX3 yX3_firstBroken wsX3_firstBroken) := goodIn_app (goodIn_of _ (by decide +kernel)) ggX5_chain_X3_firstBroken
theorem dX5_chain_0 : decode cX5_chain 0 = .ok (.aload_n 0, 1) := by decide +kernel
theorem dX5_chain_1 : decode cX5_chain 1 = .ok (.getfield 57, 3) := by decide +kernel
theorem dX5_chain_4 : decode cX5_chain 4 = .ok (.invokevirtual 198, 3) := by decide +kernel
theorem dX5_chain_7 : decode cX5_chain 7 = .ok (.ireturn, 1) := by decide +kernel
theorem dX5_isDay_0 : decode cX5_isDay 0 = .ok (.iload_n 0, 1) := by decide +kernel
theorem dX5_isDay_1 : decode cX5_isDay 1 = .ok (.ifCond .lt 13, 3) := by decide +kernel
theorem dX5_isDay_4 : decode cX5_isDay 4 = .ok (.iload_n 0, 1) := by decide +kernel
theorem dX5_isDay_5 : decode cX5_isDay 5 = .ok (.ldc 201, 2) := by decide +kernel
theorem dX5_isDay_7 : decode cX5_isDay 7 = .ok (.if_icmp .gt 7, 3) := by decide +kernel
theorem dX5_isDay_10 : decode cX5_isDay 10 = .ok (.iconst 1, 1) := by decide +kernel
theorem dX5_isDay_11 : decode cX5_isDay 11 = .ok (.goto 4, 3) := by decide +kernel
theorem dX5_isDay_14 : decode cX5_isDay 14 = .ok (.iconst 0, 1) := by decide +kernel
theorem dX5_isDay_15 : decode cX5_isDay 15 = .ok (.ireturn, 1) := by decide +kernel
theorem dX5_isFile_0 : decode cX5_isFile 0 = .ok (.iload_n 1, 1) := by decide +kernel
theorem dX5_isFile_1 : decode cX5_isFile 1 = .ok (.ifCond .lt 15, 3) := by decide +kernel
theorem dX5_isFile_4 : decode cX5_isFile 4 = .ok (.iload_n 1, 1) := by decide +kernel
theorem dX5_isFile_5 : decode cX5_isFile 5 = .ok (.aload_n 0, 1) := by decide +kernel
theorem dX5_isFile_6 : decode cX5_isFile 6 = .ok (.getfield 100, 3) := by decide +kernel
theorem dX5_isFile_9 : decode cX5_isFile 9 = .ok (.if_icmp .ge 7, 3) := by decide +kernel
theorem dX5_isFile_12 : decode cX5_isFile 12 = .ok (.iconst 1, 1) := by decide +kernel
theorem dX5_isFile_13 : decode cX5_isFile 13 = .ok (.goto 4, 3) := by decide +kernel
theorem dX5_isFile_16 : decode cX5_isFile 16 = .ok (.iconst 0, 1) := by decide +kernel
theorem dX5_isFile_17 : decode cX5_isFile 17 = .ok (.ireturn, 1) := by decide +kernel
set_option maxRecDepth 20000 in
theorem ggX5_matches_X4_compute : GoodIn wsX5_matches wsX4_compute := goodIn_r _ [7, 8, 9, 10, 11, 12, 13, 14, 15, 16, 17, 18, 19, 79, 80, 81] (by decide +kernel) (by decide +kernel)
set_option maxRecDepth 20000 in
theorem gX5_matches_X4_compute : GoodIn wsX5_matches (wsV RX5 86 RX4 yX4_compute wsX4_compute) := goodIn_app (goodIn_of _ (by decide +kernel)) ggX5_matches_X4_compute
set_option maxRecDepth 20000 in
theorem ggX5_matches_X1_compute : GoodIn wsX5_matches wsX1_compute := goodIn_r _ [24, 25, 26, 27, 28, 10, 11, 12, 13, 14, 29, 30, 23, 31, 32, 16, 17, 18, 19, 33, 34, 35, 36, 37, 38, 39, 40, 41, 42, 43, 44, 45, 46, 47, 48, 49, 50, 51, 52, 53, 82, 83, 80, 81] (by decide +kernel) (by decide +kernel)
set_option maxRecDepth 20000 in
theorem gX5_matches_X1_compute : GoodIn wsX5_matches (wsV RX5 75 RX1 yX1_compute wsX1_compute) := goodIn_app (goodIn_of _ (by decide +kernel)) ggX5_matches_X1_compute
set_option maxRecDepth 20000 in
theorem ggX5_matches_X1_equalTo : GoodIn wsX5_matches wsX1_equalTo := goodIn_r _ [57, 25, 82, 83] (by decide +kernel) (by decide +kernel)
set_option maxRecDepth 20000 in
theorem gX5_matches_X1_equalTo : GoodIn wsX5_matches (wsV RX5 202 RX1 yX1_equalTo wsX1_equalTo) := goodIn_app (goodIn_of _ (by decide +kernel)) ggX5_matches_X1_equalTo
theorem dX5_matches_0 : decode cX5_matches 0 = .ok (.aload_n 2, 1) := by decide +kernel
theorem dX5_matches_1 : decode cX5_matches 1 = .ok (.getfield 109, 3) := by decide +kernel
theorem dX5_matches_4 : decode cX5_matches 4 = .ok (.iconst 2, 1) := by decide +kernel
theorem dX5_matches_5 : decode cX5_matches 5 = .ok (.iand, 1) := by decide +kernel
theorem dX5_matches_6 : decode cX5_matches 6 = .ok (.ifCond .eq 20, 3) := by decide +kernel
theorem dX5_matches_9 : decode cX5_matches 9 = .ok (.aload_n 0, 1) := by decide +kernel
theorem dX5_matches_10 : decode cX5_matches 10 = .ok (.getfield 32, 3) := by decide +kernel
theorem dX5_matches_13 : decode cX5_matches 13 = .ok (.aload_n 1, 1) := by decide +kernel
theorem dX5_matches_14 : decode cX5_matches 14 = .ok (.invokevirtual 86, 3) := by decide +kernel
theorem dX5_matches_17 : decode cX5_matches 17 = .ok (.aload_n 2, 1) := by decide +kernel
theorem dX5_matches_18 : decode cX5_matches 18 = .ok (.getfield 115, 3) := by decide +kernel
theorem dX5_matches_21 : decode cX5_matches 21 = .ok (.if_icmp .eq 5, 3) := by decide +kernel
theorem dX5_matches_24 : decode cX5_matches 24 = .ok (.iconst 0, 1) := by decide +kernel
theorem dX5_matches_25 : decode cX5_matches 25 = .ok (.ireturn, 1) := by decide +kernel
theorem dX5_matches_26 : decode cX5_matches 26 = .ok (.aload_n 2, 1) := by decide +kernel
theorem dX5_matches_27 : decode cX5_matches 27 = .ok (.getfield 109, 3) := by decide +kernel
theorem dX5_matches_30 : decode cX5_matches 30 = .ok (.iconst 1, 1) := by decide +kernel
theorem dX5_matches_31 : decode cX5_matches 31 = .ok (.iand, 1) := by decide +kernel
theorem dX5_matches_32 : decode cX5_matches 32 = .ok (.ifCond .ne 5, 3) := by decide +kernel
theorem dX5_matches_35 : decode cX5_matches 35 = .ok (.iconst 1, 1) := by decide +kernel
theorem dX5_matches_36 : decode cX5_matches 36 = .ok (.ireturn, 1) := by decide +kernel
theorem dX5_matches_37 : decode cX5_matches 37 = .ok (.aload_n 0, 1) := by decide +kernel
theorem dX5_matches_38 : decode cX5_matches 38 = .ok (.getfield 25, 3) := by decide +kernel
theorem dX5_matches_41 : decode cX5_matches 41 = .ok (.aload_n 1, 1) := by decide +kernel
theorem dX5_matches_42 : decode cX5_matches 42 = .ok (.invokevirtual 75, 3) := by decide +kernel
theorem dX5_matches_45 : decode cX5_matches 45 = .ok (.aload_n 0, 1) := by decide +kernel
theorem dX5_matches_46 : decode cX5_matches 46 = .ok (.getfield 25, 3) := by decide +kernel
theorem dX5_matches_49 : decode cX5_matches 49 = .ok (.aload_n 2, 1) := by decide +kernel
theorem dX5_matches_50 : decode cX5_matches 50 = .ok (.getfield 112, 3) := by decide +kernel
theorem dX5_matches_53 : decode cX5_matches 53 = .ok (.invokevirtual 202, 3) := by decide +kernel
theorem dX5_matches_56 : decode cX5_matches 56 = .ok (.ireturn, 1) := by decide +kernel
set_option maxRecDepth 20000 in
theorem ggX5_check_X5_matches : GoodIn wsX5_check wsX5_matches := goodIn_r _ [7, 8, 9, 10, 11, 12, 13, 14, 15, 16, 17, 18, 19, 20, 21, 22, 23, 24, 25, 26, 27, 28, 29, 30, 31, 32, 33, 34, 35, 36, 37, 38, 39, 40, 41, 42, 43, 44, 45, 46, 47, 48, 49, 50, 51, 52, 53, 54, 55, 56, 57, 58, 59, 60, 61, 62, 63, 64, 127, 128, 129, 130, 131, 132, 133, 134, 114, 115, 116, 117, 118, 119, 120, 121, 122, 123, 124, 125, 126, 135, 136, 137, 138, 139] (by decide +kernel) (by decide +kernel)
set_option maxRecDepth 20000 in
theorem gX5_check_X5_matches : GoodIn wsX5_check (wsV RX5 162 RX5 yX5_matches wsX5_matches) := goodIn_app (goodIn_of _ (by decide +kernel)) ggX5_check_X5_matches
set_option maxRecDepth 20000 in
theorem ggX5_check_X3_append : GoodIn wsX5_check wsX3_append := goodIn_r _ [69, 70, 71, 72, 73, 74, 75, 76, 77, 78, 68, 79, 80, 81, 82, 83, 19, 84, 21, 85, 86, 87, 88, 89, 90, 91, 92, 93, 94, 95, 96, 26, 97, 98, 99, 100, 101, 102, 103, 104, 105, 106, 107, 108, 109, 28, 29, 30, 31, 32, 33, 34, 35, 17, 18, 20, 36, 37, 38, 39, 23, 24, 25, 40, 41, 42, 43, 44, 45, 46, 47, 48, 49, 50, 51, 52, 53, 54, 55, 56, 57, 58, 59, 60, 110, 111, 112, 113, 140, 141, 142, 143, 144, 145, 146, 136, 137, 138, 139] (by decide +kernel) (by decide +kernel)
set_option maxRecDepth 20000 in
theorem gX5_check_X3_append : GoodIn wsX5_check (wsV RX5 121 RX3 yX3_append wsX3_append) := goodIn_app (goodIn_of _ (by decide +kernel)) ggX5_check_X3_append
theorem dX5_check_0 : decode cX5_check 0 = .ok (.aload_n 0, 1) := by decide +kernel
theorem dX5_check_1 : decode cX5_check 1 = .ok (.getfield 49, 3) := by decide +kernel
theorem dX5_check_4 : decode cX5_check 4 = .ok (.iload_n 1, 1) := by decide +kernel
theorem dX5_check_5 : decode cX5_check 5 = .ok (.aaload, 1) := by decide +kernel
theorem dX5_check_6 : decode cX5_check 6 = .ok (.astore_n 3, 1) := by decide +kernel
theorem dX5_check_7 : decode cX5_check 7 = .ok (.aload_n 0, 1) := by decide +kernel
theorem dX5_check_8 : decode cX5_check 8 = .ok (.aload_n 3, 1) := by decide +kernel
theorem dX5_check_9 : decode cX5_check 9 = .ok (.getfield 103, 3) := by decide +kernel
theorem dX5_check_12 : decode cX5_check 12 = .ok (.aload_n 3, 1) := by decide +kernel
theorem dX5_check_13 : decode cX5_check 13 = .ok (.invokevirtual 162, 3) := by decide +kernel
theorem dX5_check_16 : decode cX5_check 16 = .ok (.istore 4, 2) := by decide +kernel
theorem dX5_check_18 : decode cX5_check 18 = .ok (.iload 4, 2) := by decide +kernel
theorem dX5_check_20 : decode cX5_check 20 = .ok (.ifCond .eq 8, 3) := by decide +kernel
theorem dX5_check_23 : decode cX5_check 23 = .ok (.aload_n 3, 1) := by decide +kernel
theorem dX5_check_24 : decode cX5_check 24 = .ok (.iload_n 2, 1) := by decide +kernel
theorem dX5_check_25 : decode cX5_check 25 = .ok (.putfield 173, 3) := by decide +kernel
theorem dX5_check_28 : decode cX5_check 28 = .ok (.aload_n 0, 1) := by decide +kernel
theorem dX5_check_29 : decode cX5_check 29 = .ok (.getfield 57, 3) := by decide +kernel
theorem dX5_check_32 : decode cX5_check 32 = .ok (.iload 4, 2) := by decide +kernel
theorem dX5_check_34 : decode cX5_check 34 = .ok (.ifCond .eq 7, 3) := by decide +kernel
theorem dX5_check_37 : decode cX5_check 37 = .ok (.iconst 1, 1) := by decide +kernel
theorem dX5_check_38 : decode cX5_check 38 = .ok (.goto 4, 3) := by decide +kernel
theorem dX5_check_41 : decode cX5_check 41 = .ok (.iconst 2, 1) := by decide +kernel
theorem dX5_check_42 : decode cX5_check 42 = .ok (.iload_n 1, 1) := by decide +kernel
theorem dX5_check_43 : decode cX5_check 43 = .ok (.iload_n 2, 1) := by decide +kernel
theorem dX5_check_44 : decode cX5_check 44 = .ok (.invokevirtual 121, 3) := by decide +kernel
theorem dX5_check_47 : decode cX5_check 47 = .ok (.iload 4, 2) := by decide +kernel
theorem dX5_check_49 : decode cX5_check 49 = .ok (.ireturn, 1) := by decide +kernel
set_option maxRecDepth 20000 in
theorem ggX5_longestWaiting_X0_isWaiting : GoodIn wsX5_longestWaiting wsX0_isWaiting := goodIn_r _ [7, 8, 9, 23, 24, 25, 26, 27, 28, 29, 30] (by decide +kernel) (by decide +kernel)
set_option maxRecDepth 20000 in
theorem gX5_longestWaiting_X0_isWaiting : GoodIn wsX5_longestWaiting (wsV RX5 206 RX0 yX0_isWaiting wsX0_isWaiting) := goodIn_app (goodIn_of _ (by decide +kernel)) ggX5_longestWaiting_X0_isWaiting
theorem dX5_longestWaiting_0 : decode cX5_longestWaiting 0 = .ok (.iconst (-1), 1) := by decide +kernel
theorem dX5_longestWaiting_1 : decode cX5_longestWaiting 1 = .ok (.istore_n 2, 1) := by decide +kernel
theorem dX5_longestWaiting_2 : decode cX5_longestWaiting 2 = .ok (.iload_n 1, 1) := by decide +kernel
theorem dX5_longestWaiting_3 : decode cX5_longestWaiting 3 = .ok (.istore_n 3, 1) := by decide +kernel
theorem dX5_longestWaiting_4 : decode cX5_longestWaiting 4 = .ok (.iconst 0, 1) := by decide +kernel
theorem dX5_longestWaiting_5 : decode cX5_longestWaiting 5 = .ok (.istore 4, 2) := by decide +kernel
theorem dX5_longestWaiting_7 : decode cX5_longestWaiting 7 = .ok (.iload 4, 2) := by decide +kernel
theorem dX5_longestWaiting_9 : decode cX5_longestWaiting 9 = .ok (.aload_n 0, 1) := by decide +kernel
theorem dX5_longestWaiting_10 : decode cX5_longestWaiting 10 = .ok (.getfield 100, 3) := by decide +kernel
theorem dX5_longestWaiting_13 : decode cX5_longestWaiting 13 = .ok (.if_icmp .ge 50, 3) := by decide +kernel
theorem dX5_longestWaiting_16 : decode cX5_longestWaiting 16 = .ok (.aload_n 0, 1) := by decide +kernel
theorem dX5_longestWaiting_17 : decode cX5_longestWaiting 17 = .ok (.getfield 49, 3) := by decide +kernel
theorem dX5_longestWaiting_20 : decode cX5_longestWaiting 20 = .ok (.iload 4, 2) := by decide +kernel
theorem dX5_longestWaiting_22 : decode cX5_longestWaiting 22 = .ok (.aaload, 1) := by decide +kernel
theorem dX5_longestWaiting_23 : decode cX5_longestWaiting 23 = .ok (.astore 5, 2) := by decide +kernel
theorem dX5_longestWaiting_25 : decode cX5_longestWaiting 25 = .ok (.aload 5, 2) := by decide +kernel
theorem dX5_longestWaiting_27 : decode cX5_longestWaiting 27 = .ok (.iload_n 1, 1) := by decide +kernel
theorem dX5_longestWaiting_28 : decode cX5_longestWaiting 28 = .ok (.invokevirtual 206, 3) := by decide +kernel
theorem dX5_longestWaiting_31 : decode cX5_longestWaiting 31 = .ok (.ifCond .eq 26, 3) := by decide +kernel
theorem dX5_longestWaiting_34 : decode cX5_longestWaiting 34 = .ok (.iload_n 2, 1) := by decide +kernel
theorem dX5_longestWaiting_35 : decode cX5_longestWaiting 35 = .ok (.iconst (-1), 1) := by decide +kernel
theorem dX5_longestWaiting_36 : decode cX5_longestWaiting 36 = .ok (.if_icmp .eq 12, 3) := by decide +kernel
theorem dX5_longestWaiting_39 : decode cX5_longestWaiting 39 = .ok (.aload 5, 2) := by decide +kernel
theorem dX5_longestWaiting_41 : decode cX5_longestWaiting 41 = .ok (.getfield 176, 3) := by decide +kernel
theorem dX5_longestWaiting_44 : decode cX5_longestWaiting 44 = .ok (.iload_n 3, 1) := by decide +kernel
theorem dX5_longestWaiting_45 : decode cX5_longestWaiting 45 = .ok (.if_icmp .ge 12, 3) := by decide +kernel
theorem dX5_longestWaiting_48 : decode cX5_longestWaiting 48 = .ok (.iload 4, 2) := by decide +kernel
theorem dX5_longestWaiting_50 : decode cX5_longestWaiting 50 = .ok (.istore_n 2, 1) := by decide +kernel
theorem dX5_longestWaiting_51 : decode cX5_longestWaiting 51 = .ok (.aload 5, 2) := by decide +kernel
theorem dX5_longestWaiting_53 : decode cX5_longestWaiting 53 = .ok (.getfield 176, 3) := by decide +kernel
theorem dX5_longestWaiting_56 : decode cX5_longestWaiting 56 = .ok (.istore_n 3, 1) := by decide +kernel
theorem dX5_longestWaiting_57 : decode cX5_longestWaiting 57 = .ok (.iinc 4 1, 3) := by decide +kernel
theorem dX5_longestWaiting_60 : decode cX5_longestWaiting 60 = .ok (.goto (-53), 3) := by decide +kernel
theorem dX5_longestWaiting_63 : decode cX5_longestWaiting 63 = .ok (.iload_n 2, 1) := by decide +kernel
theorem dX5_longestWaiting_64 : decode cX5_longestWaiting 64 = .ok (.ireturn, 1) := by decide +kernel
set_option maxRecDepth 20000 in
theorem ggX5_countWaiting_X0_isWaiting : GoodIn wsX5_countWaiting wsX0_isWaiting := goodIn_r _ [7, 8, 9, 23, 24, 25, 26, 27, 28, 29, 30] (by decide +kernel) (by decide +kernel)
set_option maxRecDepth 20000 in
theorem gX5_countWaiting_X0_isWaiting : GoodIn wsX5_countWaiting (wsV RX5 206 RX0 yX0_isWaiting wsX0_isWaiting) := goodIn_app (goodIn_of _ (by decide +kernel)) ggX5_countWaiting_X0_isWaiting
theorem dX5_countWaiting_0 : decode cX5_countWaiting 0 = .ok (.iconst 0, 1) := by decide +kernel
theorem dX5_countWaiting_1 : decode cX5_countWaiting 1 = .ok (.istore_n 2, 1) := by decide +kernel
theorem dX5_countWaiting_2 : decode cX5_countWaiting 2 = .ok (.iconst 0, 1) := by decide +kernel
theorem dX5_countWaiting_3 : decode cX5_countWaiting 3 = .ok (.istore_n 3, 1) := by decide +kernel
theorem dX5_countWaiting_4 : decode cX5_countWaiting 4 = .ok (.iload_n 3, 1) := by decide +kernel
theorem dX5_countWaiting_5 : decode cX5_countWaiting 5 = .ok (.aload_n 0, 1) := by decide +kernel
theorem dX5_countWaiting_6 : decode cX5_countWaiting 6 = .ok (.getfield 100, 3) := by decide +kernel
theorem dX5_countWaiting_9 : decode cX5_countWaiting 9 = .ok (.if_icmp .ge 25, 3) := by decide +kernel
theorem dX5_countWaiting_12 : decode cX5_countWaiting 12 = .ok (.aload_n 0, 1) := by decide +kernel
theorem dX5_countWaiting_13 : decode cX5_countWaiting 13 = .ok (.getfield 49, 3) := by decide +kernel
theorem dX5_countWaiting_16 : decode cX5_countWaiting 16 = .ok (.iload_n 3, 1) := by decide +kernel
theorem dX5_countWaiting_17 : decode cX5_countWaiting 17 = .ok (.aaload, 1) := by decide +kernel
theorem dX5_countWaiting_18 : decode cX5_countWaiting 18 = .ok (.iload_n 1, 1) := by decide +kernel
theorem dX5_countWaiting_19 : decode cX5_countWaiting 19 = .ok (.invokevirtual 206, 3) := by decide +kernel
theorem dX5_countWaiting_22 : decode cX5_countWaiting 22 = .ok (.ifCond .eq 6, 3) := by decide +kernel
theorem dX5_countWaiting_25 : decode cX5_countWaiting 25 = .ok (.iinc 2 1, 3) := by decide +kernel
theorem dX5_countWaiting_28 : decode cX5_countWaiting 28 = .ok (.iinc 3 1, 3) := by decide +kernel
theorem dX5_countWaiting_31 : decode cX5_countWaiting 31 = .ok (.goto (-27), 3) := by decide +kernel
theorem dX5_countWaiting_34 : decode cX5_countWaiting 34 = .ok (.iload_n 2, 1) := by decide +kernel
theorem dX5_countWaiting_35 : decode cX5_countWaiting 35 = .ok (.ireturn, 1) := by decide +kernel
set_option maxRecDepth 20000 in
theorem ggX5_firstCopyFor_X5_matches : GoodIn wsX5_firstCopyFor wsX5_matches := goodIn_r _ [7, 8, 9, 10, 11, 12, 13, 14, 15, 16, 17, 18, 19, 20, 21, 22, 23, 24, 25, 26, 27, 28, 29, 30, 31, 32, 33, 34, 35, 36, 37, 38, 39, 40, 41, 42, 43, 44, 45, 46, 47, 48, 49, 50, 51, 52, 53, 54, 55, 56, 57, 58, 59, 60, 61, 62, 63, 64, 78, 79, 80, 81, 82, 83, 84, 85, 65, 66, 67, 68, 69, 70, 71, 72, 73, 74, 75, 76, 77, 86, 87, 88, 89, 90] (by decide +kernel) (by decide +kernel)
set_option maxRecDepth 20000 in
theorem gX5_firstCopyFor_X5_matches : GoodIn wsX5_firstCopyFor (wsV RX5 162 RX5 yX5_matches wsX5_matches) := goodIn_app (goodIn_of _ (by decide +kernel)) ggX5_firstCopyFor_X5_matches
theorem dX5_firstCopyFor_0 : decode cX5_firstCopyFor 0 = .ok (.iconst 0, 1) := by decide +kernel
theorem dX5_firstCopyFor_1 : decode cX5_firstCopyFor 1 = .ok (.istore_n 2, 1) := by decide +kernel
theorem dX5_firstCopyFor_2 : decode cX5_firstCopyFor 2 = .ok (.iload_n 2, 1) := by decide +kernel
theorem dX5_firstCopyFor_3 : decode cX5_firstCopyFor 3 = .ok (.aload_n 0, 1) := by decide +kernel
theorem dX5_firstCopyFor_4 : decode cX5_firstCopyFor 4 = .ok (.getfield 100, 3) := by decide +kernel
theorem dX5_firstCopyFor_7 : decode cX5_firstCopyFor 7 = .ok (.if_icmp .ge 42, 3) := by decide +kernel
theorem dX5_firstCopyFor_10 : decode cX5_firstCopyFor 10 = .ok (.aload_n 0, 1) := by decide +kernel
theorem dX5_firstCopyFor_11 : decode cX5_firstCopyFor 11 = .ok (.getfield 49, 3) := by decide +kernel
theorem dX5_firstCopyFor_14 : decode cX5_firstCopyFor 14 = .ok (.iload_n 2, 1) := by decide +kernel
theorem dX5_firstCopyFor_15 : decode cX5_firstCopyFor 15 = .ok (.aaload, 1) := by decide +kernel
theorem dX5_firstCopyFor_16 : decode cX5_firstCopyFor 16 = .ok (.astore_n 3, 1) := by decide +kernel
theorem dX5_firstCopyFor_17 : decode cX5_firstCopyFor 17 = .ok (.aload_n 0, 1) := by decide +kernel
theorem dX5_firstCopyFor_18 : decode cX5_firstCopyFor 18 = .ok (.aload_n 3, 1) := by decide +kernel
theorem dX5_firstCopyFor_19 : decode cX5_firstCopyFor 19 = .ok (.getfield 103, 3) := by decide +kernel
theorem dX5_firstCopyFor_22 : decode cX5_firstCopyFor 22 = .ok (.aload_n 3, 1) := by decide +kernel
theorem dX5_firstCopyFor_23 : decode cX5_firstCopyFor 23 = .ok (.invokevirtual 162, 3) := by decide +kernel
theorem dX5_firstCopyFor_26 : decode cX5_firstCopyFor 26 = .ok (.ifCond .eq 17, 3) := by decide +kernel
theorem dX5_firstCopyFor_29 : decode cX5_firstCopyFor 29 = .ok (.aload_n 0, 1) := by decide +kernel
theorem dX5_firstCopyFor_30 : decode cX5_firstCopyFor 30 = .ok (.aload_n 3, 1) := by decide +kernel
theorem dX5_firstCopyFor_31 : decode cX5_firstCopyFor 31 = .ok (.getfield 103, 3) := by decide +kernel
theorem dX5_firstCopyFor_34 : decode cX5_firstCopyFor 34 = .ok (.aload_n 1, 1) := by decide +kernel
theorem dX5_firstCopyFor_35 : decode cX5_firstCopyFor 35 = .ok (.invokevirtual 162, 3) := by decide +kernel
theorem dX5_firstCopyFor_38 : decode cX5_firstCopyFor 38 = .ok (.ifCond .eq 5, 3) := by decide +kernel
theorem dX5_firstCopyFor_41 : decode cX5_firstCopyFor 41 = .ok (.iload_n 2, 1) := by decide +kernel
theorem dX5_firstCopyFor_42 : decode cX5_firstCopyFor 42 = .ok (.ireturn, 1) := by decide +kernel
theorem dX5_firstCopyFor_43 : decode cX5_firstCopyFor 43 = .ok (.iinc 2 1, 3) := by decide +kernel
theorem dX5_firstCopyFor_46 : decode cX5_firstCopyFor 46 = .ok (.goto (-44), 3) := by decide +kernel
theorem dX5_firstCopyFor_49 : decode cX5_firstCopyFor 49 = .ok (.iconst (-1), 1) := by decide +kernel
theorem dX5_firstCopyFor_50 : decode cX5_firstCopyFor 50 = .ok (.ireturn, 1) := by decide +kernel
end
section
/-- the class's cells hold the state: n its counts, g its rows of numbers; z, zn scratch; tb the table -/
def RepX (ca : Nat → ClassId) (ad : Nat → Nat) (n : Nat → Nat) (g : Nat → Nat → Int32) (z : Nat → Nat → Int32) (zn : Nat) (tb : Nat → Int32) (f : Nat → va_E) : Prop :=
  f 0 = .inr (6, [.int (nI (n 0)), .ref (ad 1), .ref (ad 4), .ref (ad 6), .ref (ad 8), .int (nI (n 1)), .ref (ad 9), .int (nI (n 2)), .ref (ad 90), .ref (ad 300), .ref (ad 301), .int (nI (n 3)), .int (g 13 0)]) ∧
  f 1 = .inr (2, [.ref (ad 2), .ref (ad 3)]) ∧
  f 2 = ai (ca 0) 8 (z 0) ∧
  f 3 = ai (ca 0) 64 (z 1) ∧
  f 4 = .inr (5, [.ref (ad 5)]) ∧
  f 5 = ai (ca 0) 256 tb ∧
  f 6 = .inr (3, [.ref (ad 7), .int (nI (n 4))]) ∧
  f 7 = ai (ca 0) 200 (g 0) ∧
  f 8 = ai (ca 0) 8 (g 1) ∧
  f 9 = aq (ca 3) 20 (fun i => some (ad (10 + 4 * i))) ∧
  f 90 = .inr (4, [.ref (ad 91), .ref (ad 94), .ref (ad 96), .ref (ad 97), .ref (ad 98), .ref (ad 99), .int (nI (n 5))]) ∧
  f 91 = .inr (2, [.ref (ad 92), .ref (ad 93)]) ∧
  f 92 = ai (ca 0) 8 (z 2) ∧
  f 93 = ai (ca 0) 64 (z 3) ∧
  f 94 = .inr (3, [.ref (ad 95), .int (nI zn)]) ∧
  f 95 = ai (ca 0) 200 (z 4) ∧
  f 96 = ai (ca 0) 200 (g 4) ∧
  f 97 = ai (ca 0) 200 (g 5) ∧
  f 98 = ai (ca 0) 200 (g 6) ∧
  f 99 = aq (ca 4) 200 (fun i => some (ad (100 + i))) ∧
  f 300 = ai (ca 0) 20 (g 2) ∧
  f 301 = ai (ca 2) 20 (g 3) ∧
  (∀ i, i < 20 → f (10 + 4 * i) = .inr (1, [.ref (ad (11 + 4 * i)), .ref (ad (13 + 4 * i)), .int (g 7 i), .int (g 8 i), .int (g 9 i), .int (g 10 i), .int (g 11 i), .int (g 12 i)])) ∧
  (∀ i, i < 20 → f (11 + 4 * i) = .inr (3, [.ref (ad (12 + 4 * i)), .int (nI (n (10 + i)))])) ∧
  (∀ i, i < 20 → f (12 + 4 * i) = ai (ca 0) 200 (g (100 + i))) ∧
  (∀ i, i < 20 → f (13 + 4 * i) = ai (ca 0) 8 (g (200 + i))) ∧
  (∀ i, i < 200 → f (100 + i) = ai (ca 0) 8 (g (1000 + i))) ∧
  zn ≤ 200 ∧
  ∀ j, j < 256 → tb j = crcN (nI j) 8

abbrev rmX5_isDay : Room := { frames := 0, cells := 0, slots := 0, locals := 0 }

set_option maxHeartbeats 4000000 in
set_option maxRecDepth 100000 in
theorem k_X5_isDay_yes (l : Launch) (D : va_G) (ca : Nat → ClassId) (N : Nat) (ad : Nat → Nat) (B tR tK : Nat) (f : Nat → va_E) (dd : xD N ad B) (j : Nat)   (hj : j ≤ 1000000) : xMi l yX5_isDay wsX5_isDay rmX5_isDay [.int (nI j)] D ca N ad B tR tK f (fun r u => nI 1 = r ∧ f = u) := by
  refine x_open (cc := cX5_isDay) (maxL := 1) (ret := (some .boolean)) (by decide) rfl (Nat.le_of_ble_eq_true rfl) ?_
  intro p e s m below meth c ls hx hb hml hown hts hr hlocks hnm hB hK hE hw hl
  have hown : s.vm.findClass RX5 = some m.cls := hown
  have hl : lv_has ls 1 [(0, .int (nI j))] := hl
  refine lv_iload_n hx hb dX5_isDay_0 rfl (lv_at hl 0 rfl) ?_
  refine n_iflt (tgt := 14) hx hb dX5_isDay_1 (by decide) (by omega) ?_
  refine lv_iload_n hx hb dX5_isDay_4 rfl (lv_at hl 0 rfl) ?_
  refine lv_ldc (v := nI 1000000) hx hb hown (hts (.constant RX5 201 (1000000)) (by decide +kernel)) dX5_isDay_5 ?_
  refine n_icgt (tgt := 14) hx hb dX5_isDay_7 (by decide) (by omega) (by omega) (fun c_7 => ?_) (fun c_7 => ?_)
  · omega
  · refine lv_iconst (v := nI 1) hx hb dX5_isDay_10 (by decide) ?_
    refine lv_goto (tgt := 15) hx hb dX5_isDay_11 (by decide) ?_
    exact x_zret hx hb hr hlocks hw (by first | exact Or.inl rfl | exact Or.inr rfl) ⟨rfl, rfl⟩ dX5_isDay_15

set_option maxHeartbeats 4000000 in
set_option maxRecDepth 100000 in
theorem k_X5_isDay_no (l : Launch) (D : va_G) (ca : Nat → ClassId) (N : Nat) (ad : Nat → Nat) (B tR tK : Nat) (f : Nat → va_E) (dd : xD N ad B) (x : Int32)   (ho : x < 0 ∨ nI 1000000 < x) : xMi l yX5_isDay wsX5_isDay rmX5_isDay [.int x] D ca N ad B tR tK f (fun r u => nI 0 = r ∧ f = u) := by
  refine x_open (cc := cX5_isDay) (maxL := 1) (ret := (some .boolean)) (by decide) rfl (Nat.le_of_ble_eq_true rfl) ?_
  intro p e s m below meth c ls hx hb hml hown hts hr hlocks hnm hB hK hE hw hl
  have hown : s.vm.findClass RX5 = some m.cls := hown
  have hl : lv_has ls 1 [(0, .int x)] := hl
  refine lv_iload_n hx hb dX5_isDay_0 rfl (lv_at hl 0 rfl) ?_
  refine lv_if_lt (tgt := 14) hx hb dX5_isDay_1 (by decide) (fun c_1 => ?_) (fun c_1 => ?_)
  · refine lv_iconst (v := nI 0) hx hb dX5_isDay_14 (by decide) ?_
    exact x_zret hx hb hr hlocks hw (by first | exact Or.inl rfl | exact Or.inr rfl) ⟨rfl, rfl⟩ dX5_isDay_15
  · refine lv_iload_n hx hb dX5_isDay_4 rfl (lv_at hl 0 rfl) ?_
    refine lv_ldc (v := nI 1000000) hx hb hown (hts (.constant RX5 201 (1000000)) (by decide +kernel)) dX5_isDay_5 ?_
    refine lv_icmp_gt (tgt := 14) hx hb dX5_isDay_7 (by decide) (fun c_7 => ?_) (fun c_7 => ?_)
    · refine lv_iconst (v := nI 0) hx hb dX5_isDay_14 (by decide) ?_
      exact x_zret hx hb hr hlocks hw (by first | exact Or.inl rfl | exact Or.inr rfl) ⟨rfl, rfl⟩ dX5_isDay_15
    · exact absurd ho (fun z => z.elim c_1 c_7)

abbrev rmX5_isFile : Room := { frames := 0, cells := 0, slots := 0, locals := 0 }

set_option maxHeartbeats 4000000 in
set_option maxRecDepth 100000 in
theorem k_X5_isFile_yes (l : Launch) (D : va_G) (ca : Nat → ClassId) (N : Nat) (ad : Nat → Nat) (B tR tK : Nat) (f : Nat → va_E) (dd : xD N ad B) (hN : 302 ≤ N) (n : Nat → Nat) (g : Nat → Nat → Int32) (z : Nat → Nat → Int32) (zn : Nat) (tb : Nat → Int32) (hR : RepX ca ad n g z zn tb f) (j : Nat) (hj : j < n 2) (h2 : n 2 ≤ 20) : xMi l yX5_isFile wsX5_isFile rmX5_isFile [.ref (ad 0), .int (nI j)] D ca N ad B tR tK f (fun r u => nI 1 = r ∧ f = u) := by
  refine x_open (cc := cX5_isFile) (maxL := 2) (ret := (some .boolean)) (by decide) rfl (Nat.le_of_ble_eq_true rfl) ?_
  intro p e s m below meth c ls hx hb hml hown hts hr hlocks hnm hB hK hE hw hl
  have hown : s.vm.findClass RX5 = some m.cls := hown
  have hl : lv_has ls 2 [(0, .ref (ad 0)), (1, .int (nI j))] := hl
  obtain ⟨c_0, c_1, c_2, c_3, c_4, c_5, c_6, c_7, c_8, c_9, c_90, c_91, c_92, c_93, c_94, c_95, c_96, c_97, c_98, c_99, c_300, c_301, F_kf, F_oc, F_va, F_lw, F_M, hzn, hT⟩ := hR
  have hin_6 : ∀ w ∈ u_ws RX5 TX5 13, w ∈ wsX5_isFile := by decide +kernel
  have hf_100 := hts (.fieldLink RX5 100 "FixityRows" "fileCount" "I") (by decide +kernel)
  have b_0 := c_0
  have b_1 := c_1
  have b_2 := c_2
  have b_3 := c_3
  have b_4 := c_4
  have b_5 := c_5
  have b_6 := c_6
  have b_7 := c_7
  have b_8 := c_8
  have b_9 := c_9
  have b_90 := c_90
  have b_91 := c_91
  have b_92 := c_92
  have b_93 := c_93
  have b_94 := c_94
  have b_95 := c_95
  have b_96 := c_96
  have b_97 := c_97
  have b_98 := c_98
  have b_99 := c_99
  have b_300 := c_300
  have b_301 := c_301
  refine lv_iload_n hx hb dX5_isFile_0 rfl (lv_at hl 1 rfl) ?_
  refine n_iflt (tgt := 16) hx hb dX5_isFile_1 (by decide) (by omega) ?_
  refine lv_iload_n hx hb dX5_isFile_4 rfl (lv_at hl 1 rfl) ?_
  refine lv_aload_n hx hb dX5_isFile_5 rfl (lv_at hl 0 rfl) ?_
  refine x_get (ci := 6) (C := RX5) (T := TX5) (n := 13) (ref := RX5) hx hb hts hin_6 hown hK hw 0 (by omega) c_0 rfl 7 (by decide) hf_100 (fun _ h => h) rfl dX5_isFile_6 ?_
  refine n_icge (tgt := 16) hx hb dX5_isFile_9 (by decide) (by omega) (by omega) (fun hc_9 => ?_) (fun hc_9 => ?_)
  · omega
  · refine lv_iconst (v := nI 1) hx hb dX5_isFile_12 (by decide) ?_
    refine lv_goto (tgt := 17) hx hb dX5_isFile_13 (by decide) ?_
    exact x_zret hx hb hr hlocks hw (by first | exact Or.inl rfl | exact Or.inr rfl) ⟨rfl, rfl⟩ dX5_isFile_17

set_option maxHeartbeats 4000000 in
set_option maxRecDepth 100000 in
theorem k_X5_isFile_no (l : Launch) (D : va_G) (ca : Nat → ClassId) (N : Nat) (ad : Nat → Nat) (B tR tK : Nat) (f : Nat → va_E) (dd : xD N ad B) (hN : 302 ≤ N) (n : Nat → Nat) (g : Nat → Nat → Int32) (z : Nat → Nat → Int32) (zn : Nat) (tb : Nat → Int32) (hR : RepX ca ad n g z zn tb f) (x : Int32) (ho : x < 0 ∨ nI (n 2) ≤ x) : xMi l yX5_isFile wsX5_isFile rmX5_isFile [.ref (ad 0), .int x] D ca N ad B tR tK f (fun r u => nI 0 = r ∧ f = u) := by
  refine x_open (cc := cX5_isFile) (maxL := 2) (ret := (some .boolean)) (by decide) rfl (Nat.le_of_ble_eq_true rfl) ?_
  intro p e s m below meth c ls hx hb hml hown hts hr hlocks hnm hB hK hE hw hl
  have hown : s.vm.findClass RX5 = some m.cls := hown
  have hl : lv_has ls 2 [(0, .ref (ad 0)), (1, .int x)] := hl
  obtain ⟨c_0, c_1, c_2, c_3, c_4, c_5, c_6, c_7, c_8, c_9, c_90, c_91, c_92, c_93, c_94, c_95, c_96, c_97, c_98, c_99, c_300, c_301, F_kf, F_oc, F_va, F_lw, F_M, hzn, hT⟩ := hR
  have hin_6 : ∀ w ∈ u_ws RX5 TX5 13, w ∈ wsX5_isFile := by decide +kernel
  have hf_100 := hts (.fieldLink RX5 100 "FixityRows" "fileCount" "I") (by decide +kernel)
  have b_0 := c_0
  have b_1 := c_1
  have b_2 := c_2
  have b_3 := c_3
  have b_4 := c_4
  have b_5 := c_5
  have b_6 := c_6
  have b_7 := c_7
  have b_8 := c_8
  have b_9 := c_9
  have b_90 := c_90
  have b_91 := c_91
  have b_92 := c_92
  have b_93 := c_93
  have b_94 := c_94
  have b_95 := c_95
  have b_96 := c_96
  have b_97 := c_97
  have b_98 := c_98
  have b_99 := c_99
  have b_300 := c_300
  have b_301 := c_301
  refine lv_iload_n hx hb dX5_isFile_0 rfl (lv_at hl 1 rfl) ?_
  refine lv_if_lt (tgt := 16) hx hb dX5_isFile_1 (by decide) (fun hc_1 => ?_) (fun hc_1 => ?_)
  · refine lv_iconst (v := nI 0) hx hb dX5_isFile_16 (by decide) ?_
    exact x_zret hx hb hr hlocks hw (by first | exact Or.inl rfl | exact Or.inr rfl) ⟨rfl, rfl⟩ dX5_isFile_17
  · refine lv_iload_n hx hb dX5_isFile_4 rfl (lv_at hl 1 rfl) ?_
    refine lv_aload_n hx hb dX5_isFile_5 rfl (lv_at hl 0 rfl) ?_
    refine x_get (ci := 6) (C := RX5) (T := TX5) (n := 13) (ref := RX5) hx hb hts hin_6 hown hK hw 0 (by omega) c_0 rfl 7 (by decide) hf_100 (fun _ h => h) rfl dX5_isFile_6 ?_
    refine lv_icmp_ge (tgt := 16) hx hb dX5_isFile_9 (by decide) (fun hc_9 => ?_) (fun hc_9 => ?_)
    · refine lv_iconst (v := nI 0) hx hb dX5_isFile_16 (by decide) ?_
      exact x_zret hx hb hr hlocks hw (by first | exact Or.inl rfl | exact Or.inr rfl) ⟨rfl, rfl⟩ dX5_isFile_17
    · exact absurd ho (fun z => z.elim hc_1 hc_9)

abbrev rmX5_octet : Room := { frames := 1, cells := 0, slots := 0, locals := 21 }

set_option maxHeartbeats 4000000 in
set_option maxRecDepth 100000 in
theorem k_X5_octet_in (l : Launch) (D : va_G) (ca : Nat → ClassId) (N : Nat) (ad : Nat → Nat) (B tR tK : Nat) (f : Nat → va_E) (dd : xD N ad B) (hN : 302 ≤ N) (n : Nat → Nat) (g : Nat → Nat → Int32) (z : Nat → Nat → Int32) (zn : Nat) (tb : Nat → Int32) (hR : RepX ca ad n g z zn tb f) (x : Int32) (h4 : n 4 < 200) : xMv l yX5_octet wsX5_octet rmX5_octet [.ref (ad 0), .int x] D ca N ad B tR tK f (fun u => ∃ (z1 : Nat → Nat → Int32) (zn1 : Nat), RepX ca ad (va_up n 4 ((n 4) + 1)) (va_up g 0 (upd (g 0) (n 4) (x &&& nI 255))) z1 zn1 tb u ∧ ∀ y, 302 ≤ y → u y = f y) := by
  refine x_open (cc := cX5_octet) (maxL := 2) (ret := none) (by decide) rfl (Nat.le_of_ble_eq_true rfl) ?_
  intro p e s m below meth c ls hx hb hml hown hts hr hlocks hnm hB hK hE hw hl
  have hown : s.vm.findClass RX5 = some m.cls := hown
  have hl : lv_has ls 2 [(0, .ref (ad 0)), (1, .int x)] := hl
  obtain ⟨c_0, c_1, c_2, c_3, c_4, c_5, c_6, c_7, c_8, c_9, c_90, c_91, c_92, c_93, c_94, c_95, c_96, c_97, c_98, c_99, c_300, c_301, F_kf, F_oc, F_va, F_lw, F_M, hzn, hT⟩ := hR
  have hin_6 : ∀ w ∈ u_ws RX5 TX5 13, w ∈ wsX5_octet := by decide +kernel
  have hf_39 := hts (.fieldLink RX5 39 "FixityRows" "collected" "LFixityRows$Octets;") (by decide +kernel)
  have b_0 := c_0
  have b_1 := c_1
  have b_2 := c_2
  have b_3 := c_3
  have b_4 := c_4
  have b_5 := c_5
  have b_6 := c_6
  have b_7 := c_7
  have b_8 := c_8
  have b_9 := c_9
  have b_90 := c_90
  have b_91 := c_91
  have b_92 := c_92
  have b_93 := c_93
  have b_94 := c_94
  have b_95 := c_95
  have b_96 := c_96
  have b_97 := c_97
  have b_98 := c_98
  have b_99 := c_99
  have b_300 := c_300
  have b_301 := c_301
  refine lv_aload_n hx hb dX5_octet_0 rfl (lv_at hl 0 rfl) ?_
  refine x_get (ci := 6) (C := RX5) (T := TX5) (n := 13) (ref := RX5) hx hb hts hin_6 hown hK hw 0 (by omega) c_0 rfl 3 (by decide) hf_39 (fun _ h => h) rfl dX5_octet_1 ?_
  refine lv_iload_n hx hb dX5_octet_4 rfl (lv_at hl 1 rfl) ?_
  refine x_Vv (q := 6) (As := [.int x]) (rest := []) ⟨hx, hb, hml, hown, hts⟩ (k_X2_push_in l D ca N ad B tR tK f dd 6 7 (n 4) x (g 0) (by omega) c_6 (by omega) c_7  (by omega)) (cwV 1 hts gX5_octet_X2_push rfl rfl rfl (by decide +kernel) ⟨Nat.le_of_ble_eq_true rfl, Nat.le_of_ble_eq_true rfl⟩) hK hE hB hw (by omega) c_6 rfl rfl rfl rfl hl.1 (Nat.le_of_ble_eq_true rfl) ⟨Nat.zero_le _, Nat.zero_le _⟩ dX5_octet_5 (fun f_1 H locs hp hw => ?_)
  have eu := hp
  have ef_1 : f_1 = va_up (va_up f 7 (ai (ca 0) 200 (upd (g 0) (n 4) (x &&& nI 255)))) 6 (.inr (3, [.ref (ad 7), .int (nI ((n 4) + 1))])) := eu
  have c_7 : f_1 7 = ai (ca 0) 200 (upd (g 0) (n 4) (x &&& nI 255)) := by rw [ef_1, va_up_ne _ _ (by decide), va_up_self]
  have c_6 : f_1 6 = .inr (3, [.ref (ad 7), .int (nI ((n 4) + 1))]) := by rw [ef_1, va_up_self]
  have c_0 : f_1 0 = .inr (6, [.int (nI (n 0)), .ref (ad 1), .ref (ad 4), .ref (ad 6), .ref (ad 8), .int (nI (n 1)), .ref (ad 9), .int (nI (n 2)), .ref (ad 90), .ref (ad 300), .ref (ad 301), .int (nI (n 3)), .int (g 13 0)]) := by rw [ef_1, va_up_ne _ _ (by decide), va_up_ne _ _ (by decide)]; exact c_0
  have c_1 : f_1 1 = .inr (2, [.ref (ad 2), .ref (ad 3)]) := by rw [ef_1, va_up_ne _ _ (by decide), va_up_ne _ _ (by decide)]; exact c_1
  have c_2 : f_1 2 = ai (ca 0) 8 (z 0) := by rw [ef_1, va_up_ne _ _ (by decide), va_up_ne _ _ (by decide)]; exact c_2
  have c_3 : f_1 3 = ai (ca 0) 64 (z 1) := by rw [ef_1, va_up_ne _ _ (by decide), va_up_ne _ _ (by decide)]; exact c_3
  have c_4 : f_1 4 = .inr (5, [.ref (ad 5)]) := by rw [ef_1, va_up_ne _ _ (by decide), va_up_ne _ _ (by decide)]; exact c_4
  have c_5 : f_1 5 = ai (ca 0) 256 tb := by rw [ef_1, va_up_ne _ _ (by decide), va_up_ne _ _ (by decide)]; exact c_5
  have c_8 : f_1 8 = ai (ca 0) 8 (g 1) := by rw [ef_1, va_up_ne _ _ (by decide), va_up_ne _ _ (by decide)]; exact c_8
  have c_9 : f_1 9 = aq (ca 3) 20 (fun i => some (ad (10 + 4 * i))) := by rw [ef_1, va_up_ne _ _ (by decide), va_up_ne _ _ (by decide)]; exact c_9
  have c_90 : f_1 90 = .inr (4, [.ref (ad 91), .ref (ad 94), .ref (ad 96), .ref (ad 97), .ref (ad 98), .ref (ad 99), .int (nI (n 5))]) := by rw [ef_1, va_up_ne _ _ (by decide), va_up_ne _ _ (by decide)]; exact c_90
  have c_91 : f_1 91 = .inr (2, [.ref (ad 92), .ref (ad 93)]) := by rw [ef_1, va_up_ne _ _ (by decide), va_up_ne _ _ (by decide)]; exact c_91
  have c_92 : f_1 92 = ai (ca 0) 8 (z 2) := by rw [ef_1, va_up_ne _ _ (by decide), va_up_ne _ _ (by decide)]; exact c_92
  have c_93 : f_1 93 = ai (ca 0) 64 (z 3) := by rw [ef_1, va_up_ne _ _ (by decide), va_up_ne _ _ (by decide)]; exact c_93
  have c_94 : f_1 94 = .inr (3, [.ref (ad 95), .int (nI zn)]) := by rw [ef_1, va_up_ne _ _ (by decide), va_up_ne _ _ (by decide)]; exact c_94
  have c_95 : f_1 95 = ai (ca 0) 200 (z 4) := by rw [ef_1, va_up_ne _ _ (by decide), va_up_ne _ _ (by decide)]; exact c_95
  have c_96 : f_1 96 = ai (ca 0) 200 (g 4) := by rw [ef_1, va_up_ne _ _ (by decide), va_up_ne _ _ (by decide)]; exact c_96
  have c_97 : f_1 97 = ai (ca 0) 200 (g 5) := by rw [ef_1, va_up_ne _ _ (by decide), va_up_ne _ _ (by decide)]; exact c_97
  have c_98 : f_1 98 = ai (ca 0) 200 (g 6) := by rw [ef_1, va_up_ne _ _ (by decide), va_up_ne _ _ (by decide)]; exact c_98
  have c_99 : f_1 99 = aq (ca 4) 200 (fun i => some (ad (100 + i))) := by rw [ef_1, va_up_ne _ _ (by decide), va_up_ne _ _ (by decide)]; exact c_99
  have c_300 : f_1 300 = ai (ca 0) 20 (g 2) := by rw [ef_1, va_up_ne _ _ (by decide), va_up_ne _ _ (by decide)]; exact c_300
  have c_301 : f_1 301 = ai (ca 2) 20 (g 3) := by rw [ef_1, va_up_ne _ _ (by decide), va_up_ne _ _ (by decide)]; exact c_301
  have qn_0 : (va_up n 4 ((n 4) + 1)) 0 = n 0 := by rw [va_up_ne _ _ (by decide)]
  have qn_1 : (va_up n 4 ((n 4) + 1)) 1 = n 1 := by rw [va_up_ne _ _ (by decide)]
  have qn_2 : (va_up n 4 ((n 4) + 1)) 2 = n 2 := by rw [va_up_ne _ _ (by decide)]
  have qn_3 : (va_up n 4 ((n 4) + 1)) 3 = n 3 := by rw [va_up_ne _ _ (by decide)]
  have qn_4 : (va_up n 4 ((n 4) + 1)) 4 = (n 4) + 1 := by rw [va_up_self]
  have qn_5 : (va_up n 4 ((n 4) + 1)) 5 = n 5 := by rw [va_up_ne _ _ (by decide)]
  have qg_0 : (va_up g 0 (upd (g 0) (n 4) (x &&& nI 255))) 0 = upd (g 0) (n 4) (x &&& nI 255) := by rw [va_up_self]
  have qg_1 : (va_up g 0 (upd (g 0) (n 4) (x &&& nI 255))) 1 = g 1 := by rw [va_up_ne _ _ (by decide)]
  have qg_2 : (va_up g 0 (upd (g 0) (n 4) (x &&& nI 255))) 2 = g 2 := by rw [va_up_ne _ _ (by decide)]
  have qg_3 : (va_up g 0 (upd (g 0) (n 4) (x &&& nI 255))) 3 = g 3 := by rw [va_up_ne _ _ (by decide)]
  have qg_4 : (va_up g 0 (upd (g 0) (n 4) (x &&& nI 255))) 4 = g 4 := by rw [va_up_ne _ _ (by decide)]
  have qg_5 : (va_up g 0 (upd (g 0) (n 4) (x &&& nI 255))) 5 = g 5 := by rw [va_up_ne _ _ (by decide)]
  have qg_6 : (va_up g 0 (upd (g 0) (n 4) (x &&& nI 255))) 6 = g 6 := by rw [va_up_ne _ _ (by decide)]
  have qg_7 : (va_up g 0 (upd (g 0) (n 4) (x &&& nI 255))) 7 = g 7 := by rw [va_up_ne _ _ (by decide)]
  have qg_8 : (va_up g 0 (upd (g 0) (n 4) (x &&& nI 255))) 8 = g 8 := by rw [va_up_ne _ _ (by decide)]
  have qg_9 : (va_up g 0 (upd (g 0) (n 4) (x &&& nI 255))) 9 = g 9 := by rw [va_up_ne _ _ (by decide)]
  have qg_10 : (va_up g 0 (upd (g 0) (n 4) (x &&& nI 255))) 10 = g 10 := by rw [va_up_ne _ _ (by decide)]
  have qg_11 : (va_up g 0 (upd (g 0) (n 4) (x &&& nI 255))) 11 = g 11 := by rw [va_up_ne _ _ (by decide)]
  have qg_12 : (va_up g 0 (upd (g 0) (n 4) (x &&& nI 255))) 12 = g 12 := by rw [va_up_ne _ _ (by decide)]
  have qg_13 : (va_up g 0 (upd (g 0) (n 4) (x &&& nI 255))) 13 = g 13 := by rw [va_up_ne _ _ (by decide)]
  have hRz : RepX ca ad (va_up n 4 ((n 4) + 1)) (va_up g 0 (upd (g 0) (n 4) (x &&& nI 255))) z zn tb f_1 := ⟨(by rw [qn_0, qn_1, qn_2, qn_3, qg_13]; exact c_0),
        c_1,
        c_2,
        c_3,
        c_4,
        c_5,
        (by rw [qn_4]; exact c_6),
        (by rw [qg_0]; exact c_7),
        (by rw [qg_1]; exact c_8),
        c_9,
        (by rw [qn_5]; exact c_90),
        c_91,
        c_92,
        c_93,
        c_94,
        c_95,
        (by rw [qg_4]; exact c_96),
        (by rw [qg_5]; exact c_97),
        (by rw [qg_6]; exact c_98),
        c_99,
        (by rw [qg_2]; exact c_300),
        (by rw [qg_3]; exact c_301),
        (fun i9 hi9 => by rw [qg_7, qg_8, qg_9, qg_10, qg_11, qg_12]; rw [ef_1, va_up_ne _ _ (by omega), va_up_ne _ _ (by omega)]; exact F_kf i9 hi9),
        (fun i9 hi9 => by rw [va_up_ne _ _ (by omega)]; rw [ef_1, va_up_ne _ _ (by omega), va_up_ne _ _ (by omega)]; exact F_oc i9 hi9),
        (fun i9 hi9 => by rw [va_up_ne _ _ (by omega)]; rw [ef_1, va_up_ne _ _ (by omega), va_up_ne _ _ (by omega)]; exact F_va i9 hi9),
        (fun i9 hi9 => by rw [va_up_ne _ _ (by omega)]; rw [ef_1, va_up_ne _ _ (by omega), va_up_ne _ _ (by omega)]; exact F_lw i9 hi9),
        (fun i9 hi9 => by rw [va_up_ne _ _ (by omega)]; rw [ef_1, va_up_ne _ _ (by omega), va_up_ne _ _ (by omega)]; exact F_M i9 hi9), hzn, hT⟩
  exact x_vret hx hb hr hlocks hw ⟨z, zn, hRz, (fun y hy => by rw [ef_1, va_up_ne _ _ (by omega), va_up_ne _ _ (by omega)])⟩ dX5_octet_8

set_option maxHeartbeats 4000000 in
set_option maxRecDepth 100000 in
theorem k_X5_octet_full (l : Launch) (D : va_G) (ca : Nat → ClassId) (N : Nat) (ad : Nat → Nat) (B tR tK : Nat) (f : Nat → va_E) (dd : xD N ad B) (hN : 302 ≤ N) (n : Nat → Nat) (g : Nat → Nat → Int32) (z : Nat → Nat → Int32) (zn : Nat) (tb : Nat → Int32) (hR : RepX ca ad n g z zn tb f) (x : Int32) (h4 : n 4 = 200) : xMv l yX5_octet wsX5_octet rmX5_octet [.ref (ad 0), .int x] D ca N ad B tR tK f (fun u => ∃ (z1 : Nat → Nat → Int32) (zn1 : Nat), RepX ca ad n g z1 zn1 tb u ∧ ∀ y, 302 ≤ y → u y = f y) := by
  refine x_open (cc := cX5_octet) (maxL := 2) (ret := none) (by decide) rfl (Nat.le_of_ble_eq_true rfl) ?_
  intro p e s m below meth c ls hx hb hml hown hts hr hlocks hnm hB hK hE hw hl
  have hown : s.vm.findClass RX5 = some m.cls := hown
  have hl : lv_has ls 2 [(0, .ref (ad 0)), (1, .int x)] := hl
  obtain ⟨c_0, c_1, c_2, c_3, c_4, c_5, c_6, c_7, c_8, c_9, c_90, c_91, c_92, c_93, c_94, c_95, c_96, c_97, c_98, c_99, c_300, c_301, F_kf, F_oc, F_va, F_lw, F_M, hzn, hT⟩ := hR
  have hin_6 : ∀ w ∈ u_ws RX5 TX5 13, w ∈ wsX5_octet := by decide +kernel
  have hf_39 := hts (.fieldLink RX5 39 "FixityRows" "collected" "LFixityRows$Octets;") (by decide +kernel)
  have b_0 := c_0
  have b_1 := c_1
  have b_2 := c_2
  have b_3 := c_3
  have b_4 := c_4
  have b_5 := c_5
  have b_6 := c_6
  have b_7 := c_7
  have b_8 := c_8
  have b_9 := c_9
  have b_90 := c_90
  have b_91 := c_91
  have b_92 := c_92
  have b_93 := c_93
  have b_94 := c_94
  have b_95 := c_95
  have b_96 := c_96
  have b_97 := c_97
  have b_98 := c_98
  have b_99 := c_99
  have b_300 := c_300
  have b_301 := c_301
  refine lv_aload_n hx hb dX5_octet_0 rfl (lv_at hl 0 rfl) ?_
  refine x_get (ci := 6) (C := RX5) (T := TX5) (n := 13) (ref := RX5) hx hb hts hin_6 hown hK hw 0 (by omega) c_0 rfl 3 (by decide) hf_39 (fun _ h => h) rfl dX5_octet_1 ?_
  refine lv_iload_n hx hb dX5_octet_4 rfl (lv_at hl 1 rfl) ?_
  refine x_Vv (q := 6) (As := [.int x]) (rest := []) ⟨hx, hb, hml, hown, hts⟩ (k_X2_push_full l D ca N ad B tR tK f dd 6 7 (n 4) x (by omega) c_6  (by omega) (by omega)) (cwV 1 hts gX5_octet_X2_push rfl rfl rfl (by decide +kernel) ⟨Nat.le_of_ble_eq_true rfl, Nat.le_of_ble_eq_true rfl⟩) hK hE hB hw (by omega) c_6 rfl rfl rfl rfl hl.1 (Nat.le_of_ble_eq_true rfl) ⟨Nat.zero_le _, Nat.zero_le _⟩ dX5_octet_5 (fun f_1 H locs hp hw => ?_)
  have eu := hp
  rw [← eu] at hw
  have hRz : RepX ca ad n g z zn tb f := ⟨c_0,
        c_1,
        c_2,
        c_3,
        c_4,
        c_5,
        c_6,
        c_7,
        c_8,
        c_9,
        c_90,
        c_91,
        c_92,
        c_93,
        c_94,
        c_95,
        c_96,
        c_97,
        c_98,
        c_99,
        c_300,
        c_301,
        (fun i9 hi9 => by exact F_kf i9 hi9),
        (fun i9 hi9 => by exact F_oc i9 hi9),
        (fun i9 hi9 => by exact F_va i9 hi9),
        (fun i9 hi9 => by exact F_lw i9 hi9),
        (fun i9 hi9 => by exact F_M i9 hi9), hzn, hT⟩
  exact x_vret hx hb hr hlocks hw ⟨z, zn, hRz, (fun _ _ => rfl)⟩ dX5_octet_8
end
section
abbrev rmX5_digest : Room := { frames := 3, cells := 0, slots := 0, locals := 76 }

set_option maxHeartbeats 4000000 in
set_option maxRecDepth 100000 in
theorem k_X5_digest_a0 (l : Launch) (D : va_G) (ca : Nat → ClassId) (N : Nat) (ad : Nat → Nat) (B tR tK : Nat) (f : Nat → va_E) (dd : xD N ad B) (hN : 302 ≤ N) (n : Nat → Nat) (g : Nat → Nat → Int32) (z : Nat → Nat → Int32) (zn : Nat) (tb : Nat → Int32) (hR : RepX ca ad n g z zn tb f)  (h4 : n 4 ≤ 200) : xMi l yX5_digest wsX5_digest rmX5_digest [.ref (ad 0), .int (nI 0)] D ca N ad B tR tK f (fun r u => nI 32 = r ∧ ∃ (z1 : Nat → Nat → Int32) (zn1 : Nat), RepX ca ad (va_up n 1 32) (va_up g 1 (sha (n 4) (g 0))) z1 zn1 tb u ∧ ∀ y, 302 ≤ y → u y = f y) := by
  refine x_open (cc := cX5_digest) (maxL := 2) (ret := (some .int)) (by decide) rfl (Nat.le_of_ble_eq_true rfl) ?_
  intro p e s m below meth c ls hx hb hml hown hts hr hlocks hnm hB hK hE hw hl
  have hown : s.vm.findClass RX5 = some m.cls := hown
  have hl : lv_has ls 2 [(0, .ref (ad 0)), (1, .int (nI 0))] := hl
  obtain ⟨c_0, c_1, c_2, c_3, c_4, c_5, c_6, c_7, c_8, c_9, c_90, c_91, c_92, c_93, c_94, c_95, c_96, c_97, c_98, c_99, c_300, c_301, F_kf, F_oc, F_va, F_lw, F_M, hzn, hT⟩ := hR
  have hin_6 : ∀ w ∈ u_ws RX5 TX5 13, w ∈ wsX5_digest := by decide +kernel
  have hf_25 := hts (.fieldLink RX5 25 "FixityRows" "longDigest" "LFixityRows$LongDigest;") (by decide +kernel)
  have hf_39 := hts (.fieldLink RX5 39 "FixityRows" "collected" "LFixityRows$Octets;") (by decide +kernel)
  have hf_43 := hts (.fieldLink RX5 43 "FixityRows" "latestDigest" "[I") (by decide +kernel)
  have hf_83 := hts (.fieldLink RX5 83 "FixityRows" "latestLength" "I") (by decide +kernel)
  have b_0 := c_0
  have b_1 := c_1
  have b_2 := c_2
  have b_3 := c_3
  have b_4 := c_4
  have b_5 := c_5
  have b_6 := c_6
  have b_7 := c_7
  have b_8 := c_8
  have b_9 := c_9
  have b_90 := c_90
  have b_91 := c_91
  have b_92 := c_92
  have b_93 := c_93
  have b_94 := c_94
  have b_95 := c_95
  have b_96 := c_96
  have b_97 := c_97
  have b_98 := c_98
  have b_99 := c_99
  have b_300 := c_300
  have b_301 := c_301
  refine lv_iload_n hx hb dX5_digest_0 rfl (lv_at hl 1 rfl) ?_
  refine lv_if_ne (tgt := 35) hx hb dX5_digest_1 (by decide) (fun h => False.elim (h (by decide))) (fun _ => ?_)
  refine lv_aload_n hx hb dX5_digest_4 rfl (lv_at hl 0 rfl) ?_
  refine x_get (ci := 6) (C := RX5) (T := TX5) (n := 13) (ref := RX5) hx hb hts hin_6 hown hK hw 0 (by omega) c_0 rfl 1 (by decide) hf_25 (fun _ h => h) rfl dX5_digest_5 ?_
  refine lv_aload_n hx hb dX5_digest_8 rfl (lv_at hl 0 rfl) ?_
  refine x_get (ci := 6) (C := RX5) (T := TX5) (n := 13) (ref := RX5) hx hb hts hin_6 hown hK hw 0 (by omega) c_0 rfl 3 (by decide) hf_39 (fun _ h => h) rfl dX5_digest_9 ?_
  refine x_Vv (q := 1) (As := [.ref (ad 6)]) (rest := []) ⟨hx, hb, hml, hown, hts⟩ (k_X1_compute l D ca N ad B tR tK f dd 1 2 3 (z 0) (z 1) 6 7 (n 4) (g 0) (by omega) c_1 (by omega) c_2 (by omega) c_3 (by omega) c_6 (by omega) c_7  (by omega) (by omega) (by omega) (by omega)) (cwV 1 hts gX5_digest_X1_compute rfl rfl rfl (by decide +kernel) ⟨Nat.le_of_ble_eq_true rfl, Nat.le_of_ble_eq_true rfl⟩) hK hE hB hw (by omega) c_1 rfl rfl rfl rfl hl.1 (Nat.le_of_ble_eq_true rfl) ⟨Nat.zero_le _, Nat.zero_le _⟩ dX5_digest_12 (fun f_1 H locs hp hw => ?_)
  obtain ⟨w1_3, e1_4, hq_5, eu⟩ := hp
  have ef_1 : f_1 = va_up (va_up f 3 (ai (ca 0) 64 w1_3)) 2 (ai (ca 0) 8 e1_4) := eu
  have c_3 : f_1 3 = ai (ca 0) 64 w1_3 := by rw [ef_1, va_up_ne _ _ (by decide), va_up_self]
  have c_2 : f_1 2 = ai (ca 0) 8 e1_4 := by rw [ef_1, va_up_self]
  refine lv_aload_n hx hb dX5_digest_15 rfl (lv_at hl 0 rfl) ?_
  have c_0 : f_1 0 = .inr (6, [.int (nI (n 0)), .ref (ad 1), .ref (ad 4), .ref (ad 6), .ref (ad 8), .int (nI (n 1)), .ref (ad 9), .int (nI (n 2)), .ref (ad 90), .ref (ad 300), .ref (ad 301), .int (nI (n 3)), .int (g 13 0)]) := by rw [ef_1, va_up_ne _ _ (by decide), va_up_ne _ _ (by decide)]; exact c_0
  refine x_get (ci := 6) (C := RX5) (T := TX5) (n := 13) (ref := RX5) hx hb hts hin_6 hown hK hw 0 (by omega) c_0 rfl 1 (by decide) hf_25 (fun _ h => h) rfl dX5_digest_16 ?_
  refine lv_aload_n hx hb dX5_digest_19 rfl (lv_at hl 0 rfl) ?_
  refine x_get (ci := 6) (C := RX5) (T := TX5) (n := 13) (ref := RX5) hx hb hts hin_6 hown hK hw 0 (by omega) c_0 rfl 4 (by decide) hf_43 (fun _ h => h) rfl dX5_digest_20 ?_
  have c_1 : f_1 1 = .inr (2, [.ref (ad 2), .ref (ad 3)]) := by rw [ef_1, va_up_ne _ _ (by decide), va_up_ne _ _ (by decide)]; exact c_1
  have c_8 : f_1 8 = ai (ca 0) 8 (g 1) := by rw [ef_1, va_up_ne _ _ (by decide), va_up_ne _ _ (by decide)]; exact c_8
  refine x_Vv (q := 1) (As := [.ref (ad 8)]) (rest := []) ⟨hx, hb, hml, hown, hts⟩ (k_X1_copyTo l D ca N ad B tR tK f_1 dd 1 2 3 e1_4 8 (g 1) (by omega) c_1 (by omega) c_2 (by omega) c_8  (by omega)) (cwV 1 hts gX5_digest_X1_copyTo rfl rfl rfl (by decide +kernel) ⟨Nat.le_of_ble_eq_true rfl, Nat.le_of_ble_eq_true rfl⟩) hK hE hB hw (by omega) c_1 rfl rfl rfl rfl hl.1 (Nat.le_of_ble_eq_true rfl) ⟨Nat.zero_le _, Nat.zero_le _⟩ dX5_digest_23 (fun f_6 H locs hp hw => ?_)
  have eu := hp
  have ef_6 : f_6 = va_up f_1 8 (ai (ca 0) 8 (cpyTo (g 1) e1_4 8)) := eu
  have c_8 : f_6 8 = ai (ca 0) 8 (cpyTo (g 1) e1_4 8) := by rw [ef_6, va_up_self]
  obtain ⟨f_8, ef_8⟩ : ∃ z, z = va_up f_1 8 (ai (ca 0) 8 (sha (n 4) (g 0))) := ⟨_, rfl⟩
  have hw : xw D vwCl N ad B s.heap f_8 H locs := by rw [ef_8]; exact xw.arr (by rw [← ef_6]; exact hw) (fun j hj => by rw [cp_in hj, hq_5 j hj])
  have c_8 : f_8 8 = ai (ca 0) 8 (sha (n 4) (g 0)) := va_up_of ef_8
  refine lv_aload_n hx hb dX5_digest_26 rfl (lv_at hl 0 rfl) ?_
  refine lv_bipush (v := nI 32) hx hb dX5_digest_27 (by decide) ?_
  have c_0 : f_8 0 = .inr (6, [.int (nI (n 0)), .ref (ad 1), .ref (ad 4), .ref (ad 6), .ref (ad 8), .int (nI (n 1)), .ref (ad 9), .int (nI (n 2)), .ref (ad 90), .ref (ad 300), .ref (ad 301), .int (nI (n 3)), .int (g 13 0)]) := by rw [ef_8, va_up_ne _ _ (by decide)]; exact c_0
  refine x_put (ci := 6) (C := RX5) (T := TX5) (n := 13) (ref := RX5) (fs' := [.int (nI (n 0)), .ref (ad 1), .ref (ad 4), .ref (ad 6), .ref (ad 8), .int (nI 32), .ref (ad 9), .int (nI (n 2)), .ref (ad 90), .ref (ad 300), .ref (ad 301), .int (nI (n 3)), .int (g 13 0)]) hx hb hts hin_6 tyX5 tyX5_ok nmX5 hown hK dd hw 0 (by omega) c_0 rfl 5 (by decide) hf_83 (fun _ h => h) rfl rfl rfl (Nat.le_of_ble_eq_true rfl) rfl dX5_digest_29 (fun H locs hw => ?_)
  obtain ⟨f_9, ef_9⟩ : ∃ z, z = va_up f_8 0 (.inr (6, [.int (nI (n 0)), .ref (ad 1), .ref (ad 4), .ref (ad 6), .ref (ad 8), .int (nI 32), .ref (ad 9), .int (nI (n 2)), .ref (ad 90), .ref (ad 300), .ref (ad 301), .int (nI (n 3)), .int (g 13 0)])) := ⟨_, rfl⟩
  have hw : xw D vwCl N ad B s.heap f_9 H locs := by rw [ef_9]; exact hw
  have c_0 : f_9 0 = .inr (6, [.int (nI (n 0)), .ref (ad 1), .ref (ad 4), .ref (ad 6), .ref (ad 8), .int (nI 32), .ref (ad 9), .int (nI (n 2)), .ref (ad 90), .ref (ad 300), .ref (ad 301), .int (nI (n 3)), .int (g 13 0)]) := va_up_of ef_9
  refine lv_bipush (v := nI 32) hx hb dX5_digest_32 (by decide) ?_
  have c_1 : f_9 1 = .inr (2, [.ref (ad 2), .ref (ad 3)]) := by rw [ef_9, va_up_ne _ _ (by decide), ef_8, va_up_ne _ _ (by decide)]; exact c_1
  have c_2 : f_9 2 = ai (ca 0) 8 e1_4 := by rw [ef_9, va_up_ne _ _ (by decide), ef_8, va_up_ne _ _ (by decide)]; exact c_2
  have c_3 : f_9 3 = ai (ca 0) 64 w1_3 := by rw [ef_9, va_up_ne _ _ (by decide), ef_8, va_up_ne _ _ (by decide)]; exact c_3
  have c_4 : f_9 4 = .inr (5, [.ref (ad 5)]) := by rw [ef_9, va_up_ne _ _ (by decide), ef_8, va_up_ne _ _ (by decide), ef_1, va_up_ne _ _ (by decide), va_up_ne _ _ (by decide)]; exact c_4
  have c_5 : f_9 5 = ai (ca 0) 256 tb := by rw [ef_9, va_up_ne _ _ (by decide), ef_8, va_up_ne _ _ (by decide), ef_1, va_up_ne _ _ (by decide), va_up_ne _ _ (by decide)]; exact c_5
  have c_6 : f_9 6 = .inr (3, [.ref (ad 7), .int (nI (n 4))]) := by rw [ef_9, va_up_ne _ _ (by decide), ef_8, va_up_ne _ _ (by decide), ef_1, va_up_ne _ _ (by decide), va_up_ne _ _ (by decide)]; exact c_6
  have c_7 : f_9 7 = ai (ca 0) 200 (g 0) := by rw [ef_9, va_up_ne _ _ (by decide), ef_8, va_up_ne _ _ (by decide), ef_1, va_up_ne _ _ (by decide), va_up_ne _ _ (by decide)]; exact c_7
  have c_8 : f_9 8 = ai (ca 0) 8 (sha (n 4) (g 0)) := by rw [ef_9, va_up_ne _ _ (by decide)]; exact c_8
  have c_9 : f_9 9 = aq (ca 3) 20 (fun i => some (ad (10 + 4 * i))) := by rw [ef_9, va_up_ne _ _ (by decide), ef_8, va_up_ne _ _ (by decide), ef_1, va_up_ne _ _ (by decide), va_up_ne _ _ (by decide)]; exact c_9
  have c_90 : f_9 90 = .inr (4, [.ref (ad 91), .ref (ad 94), .ref (ad 96), .ref (ad 97), .ref (ad 98), .ref (ad 99), .int (nI (n 5))]) := by rw [ef_9, va_up_ne _ _ (by decide), ef_8, va_up_ne _ _ (by decide), ef_1, va_up_ne _ _ (by decide), va_up_ne _ _ (by decide)]; exact c_90
  have c_91 : f_9 91 = .inr (2, [.ref (ad 92), .ref (ad 93)]) := by rw [ef_9, va_up_ne _ _ (by decide), ef_8, va_up_ne _ _ (by decide), ef_1, va_up_ne _ _ (by decide), va_up_ne _ _ (by decide)]; exact c_91
  have c_92 : f_9 92 = ai (ca 0) 8 (z 2) := by rw [ef_9, va_up_ne _ _ (by decide), ef_8, va_up_ne _ _ (by decide), ef_1, va_up_ne _ _ (by decide), va_up_ne _ _ (by decide)]; exact c_92
  have c_93 : f_9 93 = ai (ca 0) 64 (z 3) := by rw [ef_9, va_up_ne _ _ (by decide), ef_8, va_up_ne _ _ (by decide), ef_1, va_up_ne _ _ (by decide), va_up_ne _ _ (by decide)]; exact c_93
  have c_94 : f_9 94 = .inr (3, [.ref (ad 95), .int (nI zn)]) := by rw [ef_9, va_up_ne _ _ (by decide), ef_8, va_up_ne _ _ (by decide), ef_1, va_up_ne _ _ (by decide), va_up_ne _ _ (by decide)]; exact c_94
  have c_95 : f_9 95 = ai (ca 0) 200 (z 4) := by rw [ef_9, va_up_ne _ _ (by decide), ef_8, va_up_ne _ _ (by decide), ef_1, va_up_ne _ _ (by decide), va_up_ne _ _ (by decide)]; exact c_95
  have c_96 : f_9 96 = ai (ca 0) 200 (g 4) := by rw [ef_9, va_up_ne _ _ (by decide), ef_8, va_up_ne _ _ (by decide), ef_1, va_up_ne _ _ (by decide), va_up_ne _ _ (by decide)]; exact c_96
  have c_97 : f_9 97 = ai (ca 0) 200 (g 5) := by rw [ef_9, va_up_ne _ _ (by decide), ef_8, va_up_ne _ _ (by decide), ef_1, va_up_ne _ _ (by decide), va_up_ne _ _ (by decide)]; exact c_97
  have c_98 : f_9 98 = ai (ca 0) 200 (g 6) := by rw [ef_9, va_up_ne _ _ (by decide), ef_8, va_up_ne _ _ (by decide), ef_1, va_up_ne _ _ (by decide), va_up_ne _ _ (by decide)]; exact c_98
  have c_99 : f_9 99 = aq (ca 4) 200 (fun i => some (ad (100 + i))) := by rw [ef_9, va_up_ne _ _ (by decide), ef_8, va_up_ne _ _ (by decide), ef_1, va_up_ne _ _ (by decide), va_up_ne _ _ (by decide)]; exact c_99
  have c_300 : f_9 300 = ai (ca 0) 20 (g 2) := by rw [ef_9, va_up_ne _ _ (by decide), ef_8, va_up_ne _ _ (by decide), ef_1, va_up_ne _ _ (by decide), va_up_ne _ _ (by decide)]; exact c_300
  have c_301 : f_9 301 = ai (ca 2) 20 (g 3) := by rw [ef_9, va_up_ne _ _ (by decide), ef_8, va_up_ne _ _ (by decide), ef_1, va_up_ne _ _ (by decide), va_up_ne _ _ (by decide)]; exact c_301
  have qn_0 : (va_up n 1 32) 0 = n 0 := by rw [va_up_ne _ _ (by decide)]
  have qn_1 : (va_up n 1 32) 1 = 32 := by rw [va_up_self]
  have qn_2 : (va_up n 1 32) 2 = n 2 := by rw [va_up_ne _ _ (by decide)]
  have qn_3 : (va_up n 1 32) 3 = n 3 := by rw [va_up_ne _ _ (by decide)]
  have qn_4 : (va_up n 1 32) 4 = n 4 := by rw [va_up_ne _ _ (by decide)]
  have qn_5 : (va_up n 1 32) 5 = n 5 := by rw [va_up_ne _ _ (by decide)]
  have qg_0 : (va_up g 1 (sha (n 4) (g 0))) 0 = g 0 := by rw [va_up_ne _ _ (by decide)]
  have qg_1 : (va_up g 1 (sha (n 4) (g 0))) 1 = sha (n 4) (g 0) := by rw [va_up_self]
  have qg_2 : (va_up g 1 (sha (n 4) (g 0))) 2 = g 2 := by rw [va_up_ne _ _ (by decide)]
  have qg_3 : (va_up g 1 (sha (n 4) (g 0))) 3 = g 3 := by rw [va_up_ne _ _ (by decide)]
  have qg_4 : (va_up g 1 (sha (n 4) (g 0))) 4 = g 4 := by rw [va_up_ne _ _ (by decide)]
  have qg_5 : (va_up g 1 (sha (n 4) (g 0))) 5 = g 5 := by rw [va_up_ne _ _ (by decide)]
  have qg_6 : (va_up g 1 (sha (n 4) (g 0))) 6 = g 6 := by rw [va_up_ne _ _ (by decide)]
  have qg_7 : (va_up g 1 (sha (n 4) (g 0))) 7 = g 7 := by rw [va_up_ne _ _ (by decide)]
  have qg_8 : (va_up g 1 (sha (n 4) (g 0))) 8 = g 8 := by rw [va_up_ne _ _ (by decide)]
  have qg_9 : (va_up g 1 (sha (n 4) (g 0))) 9 = g 9 := by rw [va_up_ne _ _ (by decide)]
  have qg_10 : (va_up g 1 (sha (n 4) (g 0))) 10 = g 10 := by rw [va_up_ne _ _ (by decide)]
  have qg_11 : (va_up g 1 (sha (n 4) (g 0))) 11 = g 11 := by rw [va_up_ne _ _ (by decide)]
  have qg_12 : (va_up g 1 (sha (n 4) (g 0))) 12 = g 12 := by rw [va_up_ne _ _ (by decide)]
  have qg_13 : (va_up g 1 (sha (n 4) (g 0))) 13 = g 13 := by rw [va_up_ne _ _ (by decide)]
  have qz_0 : (va_up (va_up z 0 e1_4) 1 w1_3) 0 = e1_4 := by rw [va_up_ne _ _ (by decide), va_up_self]
  have qz_1 : (va_up (va_up z 0 e1_4) 1 w1_3) 1 = w1_3 := by rw [va_up_self]
  have qz_2 : (va_up (va_up z 0 e1_4) 1 w1_3) 2 = z 2 := by rw [va_up_ne _ _ (by decide), va_up_ne _ _ (by decide)]
  have qz_3 : (va_up (va_up z 0 e1_4) 1 w1_3) 3 = z 3 := by rw [va_up_ne _ _ (by decide), va_up_ne _ _ (by decide)]
  have qz_4 : (va_up (va_up z 0 e1_4) 1 w1_3) 4 = z 4 := by rw [va_up_ne _ _ (by decide), va_up_ne _ _ (by decide)]
  have hRz : RepX ca ad (va_up n 1 32) (va_up g 1 (sha (n 4) (g 0))) (va_up (va_up z 0 e1_4) 1 w1_3) zn tb f_9 := ⟨(by rw [qn_0, qn_1, qn_2, qn_3, qg_13]; exact c_0),
        c_1,
        (by rw [qz_0]; exact c_2),
        (by rw [qz_1]; exact c_3),
        c_4,
        c_5,
        (by rw [qn_4]; exact c_6),
        (by rw [qg_0]; exact c_7),
        (by rw [qg_1]; exact c_8),
        c_9,
        (by rw [qn_5]; exact c_90),
        c_91,
        (by rw [qz_2]; exact c_92),
        (by rw [qz_3]; exact c_93),
        c_94,
        (by rw [qz_4]; exact c_95),
        (by rw [qg_4]; exact c_96),
        (by rw [qg_5]; exact c_97),
        (by rw [qg_6]; exact c_98),
        c_99,
        (by rw [qg_2]; exact c_300),
        (by rw [qg_3]; exact c_301),
        (fun i9 hi9 => by rw [qg_7, qg_8, qg_9, qg_10, qg_11, qg_12]; rw [ef_9, va_up_ne _ _ (by omega), ef_8, va_up_ne _ _ (by omega), ef_1, va_up_ne _ _ (by omega), va_up_ne _ _ (by omega)]; exact F_kf i9 hi9),
        (fun i9 hi9 => by rw [va_up_ne _ _ (by omega)]; rw [ef_9, va_up_ne _ _ (by omega), ef_8, va_up_ne _ _ (by omega), ef_1, va_up_ne _ _ (by omega), va_up_ne _ _ (by omega)]; exact F_oc i9 hi9),
        (fun i9 hi9 => by rw [va_up_ne _ _ (by omega)]; rw [ef_9, va_up_ne _ _ (by omega), ef_8, va_up_ne _ _ (by omega), ef_1, va_up_ne _ _ (by omega), va_up_ne _ _ (by omega)]; exact F_va i9 hi9),
        (fun i9 hi9 => by rw [va_up_ne _ _ (by omega)]; rw [ef_9, va_up_ne _ _ (by omega), ef_8, va_up_ne _ _ (by omega), ef_1, va_up_ne _ _ (by omega), va_up_ne _ _ (by omega)]; exact F_lw i9 hi9),
        (fun i9 hi9 => by rw [va_up_ne _ _ (by omega)]; rw [ef_9, va_up_ne _ _ (by omega), ef_8, va_up_ne _ _ (by omega), ef_1, va_up_ne _ _ (by omega), va_up_ne _ _ (by omega)]; exact F_M i9 hi9), hzn, hT⟩
  exact x_iret hx hb hr hlocks hw ⟨rfl, va_up (va_up z 0 e1_4) 1 w1_3, zn, hRz, (fun y hy => by rw [ef_9, va_up_ne _ _ (by omega), ef_8, va_up_ne _ _ (by omega), ef_1, va_up_ne _ _ (by omega), va_up_ne _ _ (by omega)])⟩ dX5_digest_34

set_option maxHeartbeats 4000000 in
set_option maxRecDepth 100000 in
theorem k_X5_digest_a1 (l : Launch) (D : va_G) (ca : Nat → ClassId) (N : Nat) (ad : Nat → Nat) (B tR tK : Nat) (f : Nat → va_E) (dd : xD N ad B) (hN : 302 ≤ N) (n : Nat → Nat) (g : Nat → Nat → Int32) (z : Nat → Nat → Int32) (zn : Nat) (tb : Nat → Int32) (hR : RepX ca ad n g z zn tb f)  (h4 : n 4 ≤ 200) : xMi l yX5_digest wsX5_digest rmX5_digest [.ref (ad 0), .int (nI 1)] D ca N ad B tR tK f (fun r u => nI 4 = r ∧ ∃ (z1 : Nat → Nat → Int32) (zn1 : Nat), RepX ca ad (va_up n 1 4) (va_up g 1 (upd (g 1) 0 (crc (n 4) (g 0)))) z1 zn1 tb u ∧ ∀ y, 302 ≤ y → u y = f y) := by
  refine x_open (cc := cX5_digest) (maxL := 2) (ret := (some .int)) (by decide) rfl (Nat.le_of_ble_eq_true rfl) ?_
  intro p e s m below meth c ls hx hb hml hown hts hr hlocks hnm hB hK hE hw hl
  have hown : s.vm.findClass RX5 = some m.cls := hown
  have hl : lv_has ls 2 [(0, .ref (ad 0)), (1, .int (nI 1))] := hl
  obtain ⟨c_0, c_1, c_2, c_3, c_4, c_5, c_6, c_7, c_8, c_9, c_90, c_91, c_92, c_93, c_94, c_95, c_96, c_97, c_98, c_99, c_300, c_301, F_kf, F_oc, F_va, F_lw, F_M, hzn, hT⟩ := hR
  have hin_6 : ∀ w ∈ u_ws RX5 TX5 13, w ∈ wsX5_digest := by decide +kernel
  have hf_43 := hts (.fieldLink RX5 43 "FixityRows" "latestDigest" "[I") (by decide +kernel)
  have hf_32 := hts (.fieldLink RX5 32 "FixityRows" "shortDigest" "LFixityRows$ShortDigest;") (by decide +kernel)
  have hf_39 := hts (.fieldLink RX5 39 "FixityRows" "collected" "LFixityRows$Octets;") (by decide +kernel)
  have hf_83 := hts (.fieldLink RX5 83 "FixityRows" "latestLength" "I") (by decide +kernel)
  have b_0 := c_0
  have b_1 := c_1
  have b_2 := c_2
  have b_3 := c_3
  have b_4 := c_4
  have b_5 := c_5
  have b_6 := c_6
  have b_7 := c_7
  have b_8 := c_8
  have b_9 := c_9
  have b_90 := c_90
  have b_91 := c_91
  have b_92 := c_92
  have b_93 := c_93
  have b_94 := c_94
  have b_95 := c_95
  have b_96 := c_96
  have b_97 := c_97
  have b_98 := c_98
  have b_99 := c_99
  have b_300 := c_300
  have b_301 := c_301
  refine lv_iload_n hx hb dX5_digest_0 rfl (lv_at hl 1 rfl) ?_
  refine lv_if_ne (tgt := 35) hx hb dX5_digest_1 (by decide) (fun _ => ?_) (fun h => absurd h (by decide))
  refine lv_iload_n hx hb dX5_digest_35 rfl (lv_at hl 1 rfl) ?_
  refine lv_iconst (v := nI 1) hx hb dX5_digest_36 (by decide) ?_
  refine n_icne (tgt := 64) hx hb dX5_digest_37 (by decide) (by omega) (by omega) (fun hc_37 => ?_) (fun hc_37 => ?_)
  · omega
  · refine lv_aload_n hx hb dX5_digest_40 rfl (lv_at hl 0 rfl) ?_
    refine x_get (ci := 6) (C := RX5) (T := TX5) (n := 13) (ref := RX5) hx hb hts hin_6 hown hK hw 0 (by omega) c_0 rfl 4 (by decide) hf_43 (fun _ h => h) rfl dX5_digest_41 ?_
    refine lv_iconst (v := nI 0) hx hb dX5_digest_44 (by decide) ?_
    refine lv_aload_n hx hb dX5_digest_45 rfl (lv_at hl 0 rfl) ?_
    refine x_get (ci := 6) (C := RX5) (T := TX5) (n := 13) (ref := RX5) hx hb hts hin_6 hown hK hw 0 (by omega) c_0 rfl 2 (by decide) hf_32 (fun _ h => h) rfl dX5_digest_46 ?_
    refine lv_aload_n hx hb dX5_digest_49 rfl (lv_at hl 0 rfl) ?_
    refine x_get (ci := 6) (C := RX5) (T := TX5) (n := 13) (ref := RX5) hx hb hts hin_6 hown hK hw 0 (by omega) c_0 rfl 3 (by decide) hf_39 (fun _ h => h) rfl dX5_digest_50 ?_
    refine x_Vi (q := 4) (As := [.ref (ad 6)]) (rest := [.int (nI 0), .ref (ad 8)]) ⟨hx, hb, hml, hown, hts⟩ (k_X4_compute l D ca N ad B tR tK f dd 4 5 tb 6 7 (n 4) (g 0) (by omega) c_4 (by omega) c_5 (by omega) c_6 (by omega) c_7  (by omega) hT) (cwV 1 hts gX5_digest_X4_compute rfl rfl rfl (by decide +kernel) ⟨Nat.le_of_ble_eq_true rfl, Nat.le_of_ble_eq_true rfl⟩) hK hE hB hw (by omega) c_4 rfl rfl rfl rfl hl.1 (Nat.le_of_ble_eq_true rfl) ⟨Nat.zero_le _, Nat.zero_le _⟩ dX5_digest_53 (fun r_2 f_1 H locs hp hw => ?_)
    obtain ⟨er, eu⟩ := hp
    rw [← er]
    rw [← eu] at hw
    refine lv_topi (fun x_3 ex_3 => ?_)
    refine x_iast (j := 0) hx hb hK dd hw 8 0 (by omega) c_8 rfl rfl (by omega) (by decide) dX5_digest_56 (fun H locs hw => ?_)
    obtain ⟨f_4, ef_4⟩ : ∃ z, z = va_up f 8 (ai (ca 0) 8 (upd (g 1) 0 x_3)) := ⟨_, rfl⟩
    have hw : xw D vwCl N ad B s.heap f_4 H locs := by rw [ef_4]; exact hw
    have c_8 : f_4 8 = ai (ca 0) 8 (upd (g 1) 0 x_3) := va_up_of ef_4
    refine lv_aload_n hx hb dX5_digest_57 rfl (lv_at hl 0 rfl) ?_
    refine lv_iconst (v := nI 4) hx hb dX5_digest_58 (by decide) ?_
    have c_0 : f_4 0 = .inr (6, [.int (nI (n 0)), .ref (ad 1), .ref (ad 4), .ref (ad 6), .ref (ad 8), .int (nI (n 1)), .ref (ad 9), .int (nI (n 2)), .ref (ad 90), .ref (ad 300), .ref (ad 301), .int (nI (n 3)), .int (g 13 0)]) := by rw [ef_4, va_up_ne _ _ (by decide)]; exact c_0
    refine x_put (ci := 6) (C := RX5) (T := TX5) (n := 13) (ref := RX5) (fs' := [.int (nI (n 0)), .ref (ad 1), .ref (ad 4), .ref (ad 6), .ref (ad 8), .int (nI 4), .ref (ad 9), .int (nI (n 2)), .ref (ad 90), .ref (ad 300), .ref (ad 301), .int (nI (n 3)), .int (g 13 0)]) hx hb hts hin_6 tyX5 tyX5_ok nmX5 hown hK dd hw 0 (by omega) c_0 rfl 5 (by decide) hf_83 (fun _ h => h) rfl rfl rfl (Nat.le_of_ble_eq_true rfl) rfl dX5_digest_59 (fun H locs hw => ?_)
    obtain ⟨f_5, ef_5⟩ : ∃ z, z = va_up f_4 0 (.inr (6, [.int (nI (n 0)), .ref (ad 1), .ref (ad 4), .ref (ad 6), .ref (ad 8), .int (nI 4), .ref (ad 9), .int (nI (n 2)), .ref (ad 90), .ref (ad 300), .ref (ad 301), .int (nI (n 3)), .int (g 13 0)])) := ⟨_, rfl⟩
    have hw : xw D vwCl N ad B s.heap f_5 H locs := by rw [ef_5]; exact hw
    have c_0 : f_5 0 = .inr (6, [.int (nI (n 0)), .ref (ad 1), .ref (ad 4), .ref (ad 6), .ref (ad 8), .int (nI 4), .ref (ad 9), .int (nI (n 2)), .ref (ad 90), .ref (ad 300), .ref (ad 301), .int (nI (n 3)), .int (g 13 0)]) := va_up_of ef_5
    refine lv_iconst (v := nI 4) hx hb dX5_digest_62 (by decide) ?_
    have c_1 : f_5 1 = .inr (2, [.ref (ad 2), .ref (ad 3)]) := by rw [ef_5, va_up_ne _ _ (by decide), ef_4, va_up_ne _ _ (by decide)]; exact c_1
    have c_2 : f_5 2 = ai (ca 0) 8 (z 0) := by rw [ef_5, va_up_ne _ _ (by decide), ef_4, va_up_ne _ _ (by decide)]; exact c_2
    have c_3 : f_5 3 = ai (ca 0) 64 (z 1) := by rw [ef_5, va_up_ne _ _ (by decide), ef_4, va_up_ne _ _ (by decide)]; exact c_3
    have c_4 : f_5 4 = .inr (5, [.ref (ad 5)]) := by rw [ef_5, va_up_ne _ _ (by decide), ef_4, va_up_ne _ _ (by decide)]; exact c_4
    have c_5 : f_5 5 = ai (ca 0) 256 tb := by rw [ef_5, va_up_ne _ _ (by decide), ef_4, va_up_ne _ _ (by decide)]; exact c_5
    have c_6 : f_5 6 = .inr (3, [.ref (ad 7), .int (nI (n 4))]) := by rw [ef_5, va_up_ne _ _ (by decide), ef_4, va_up_ne _ _ (by decide)]; exact c_6
    have c_7 : f_5 7 = ai (ca 0) 200 (g 0) := by rw [ef_5, va_up_ne _ _ (by decide), ef_4, va_up_ne _ _ (by decide)]; exact c_7
    have c_8 : f_5 8 = ai (ca 0) 8 (upd (g 1) 0 x_3) := by rw [ef_5, va_up_ne _ _ (by decide)]; exact c_8
    have c_9 : f_5 9 = aq (ca 3) 20 (fun i => some (ad (10 + 4 * i))) := by rw [ef_5, va_up_ne _ _ (by decide), ef_4, va_up_ne _ _ (by decide)]; exact c_9
    have c_90 : f_5 90 = .inr (4, [.ref (ad 91), .ref (ad 94), .ref (ad 96), .ref (ad 97), .ref (ad 98), .ref (ad 99), .int (nI (n 5))]) := by rw [ef_5, va_up_ne _ _ (by decide), ef_4, va_up_ne _ _ (by decide)]; exact c_90
    have c_91 : f_5 91 = .inr (2, [.ref (ad 92), .ref (ad 93)]) := by rw [ef_5, va_up_ne _ _ (by decide), ef_4, va_up_ne _ _ (by decide)]; exact c_91
    have c_92 : f_5 92 = ai (ca 0) 8 (z 2) := by rw [ef_5, va_up_ne _ _ (by decide), ef_4, va_up_ne _ _ (by decide)]; exact c_92
    have c_93 : f_5 93 = ai (ca 0) 64 (z 3) := by rw [ef_5, va_up_ne _ _ (by decide), ef_4, va_up_ne _ _ (by decide)]; exact c_93
    have c_94 : f_5 94 = .inr (3, [.ref (ad 95), .int (nI zn)]) := by rw [ef_5, va_up_ne _ _ (by decide), ef_4, va_up_ne _ _ (by decide)]; exact c_94
    have c_95 : f_5 95 = ai (ca 0) 200 (z 4) := by rw [ef_5, va_up_ne _ _ (by decide), ef_4, va_up_ne _ _ (by decide)]; exact c_95
    have c_96 : f_5 96 = ai (ca 0) 200 (g 4) := by rw [ef_5, va_up_ne _ _ (by decide), ef_4, va_up_ne _ _ (by decide)]; exact c_96
    have c_97 : f_5 97 = ai (ca 0) 200 (g 5) := by rw [ef_5, va_up_ne _ _ (by decide), ef_4, va_up_ne _ _ (by decide)]; exact c_97
    have c_98 : f_5 98 = ai (ca 0) 200 (g 6) := by rw [ef_5, va_up_ne _ _ (by decide), ef_4, va_up_ne _ _ (by decide)]; exact c_98
    have c_99 : f_5 99 = aq (ca 4) 200 (fun i => some (ad (100 + i))) := by rw [ef_5, va_up_ne _ _ (by decide), ef_4, va_up_ne _ _ (by decide)]; exact c_99
    have c_300 : f_5 300 = ai (ca 0) 20 (g 2) := by rw [ef_5, va_up_ne _ _ (by decide), ef_4, va_up_ne _ _ (by decide)]; exact c_300
    have c_301 : f_5 301 = ai (ca 2) 20 (g 3) := by rw [ef_5, va_up_ne _ _ (by decide), ef_4, va_up_ne _ _ (by decide)]; exact c_301
    have c_8 : f_5 8 = ai (ca 0) 8 (upd (g 1) 0 (crc (n 4) (g 0))) := by rw [c_8]; simp only [ex_3]
    have qn_0 : (va_up n 1 4) 0 = n 0 := by rw [va_up_ne _ _ (by decide)]
    have qn_1 : (va_up n 1 4) 1 = 4 := by rw [va_up_self]
    have qn_2 : (va_up n 1 4) 2 = n 2 := by rw [va_up_ne _ _ (by decide)]
    have qn_3 : (va_up n 1 4) 3 = n 3 := by rw [va_up_ne _ _ (by decide)]
    have qn_4 : (va_up n 1 4) 4 = n 4 := by rw [va_up_ne _ _ (by decide)]
    have qn_5 : (va_up n 1 4) 5 = n 5 := by rw [va_up_ne _ _ (by decide)]
    have qg_0 : (va_up g 1 (upd (g 1) 0 (crc (n 4) (g 0)))) 0 = g 0 := by rw [va_up_ne _ _ (by decide)]
    have qg_1 : (va_up g 1 (upd (g 1) 0 (crc (n 4) (g 0)))) 1 = upd (g 1) 0 (crc (n 4) (g 0)) := by rw [va_up_self]
    have qg_2 : (va_up g 1 (upd (g 1) 0 (crc (n 4) (g 0)))) 2 = g 2 := by rw [va_up_ne _ _ (by decide)]
    have qg_3 : (va_up g 1 (upd (g 1) 0 (crc (n 4) (g 0)))) 3 = g 3 := by rw [va_up_ne _ _ (by decide)]
    have qg_4 : (va_up g 1 (upd (g 1) 0 (crc (n 4) (g 0)))) 4 = g 4 := by rw [va_up_ne _ _ (by decide)]
    have qg_5 : (va_up g 1 (upd (g 1) 0 (crc (n 4) (g 0)))) 5 = g 5 := by rw [va_up_ne _ _ (by decide)]
    have qg_6 : (va_up g 1 (upd (g 1) 0 (crc (n 4) (g 0)))) 6 = g 6 := by rw [va_up_ne _ _ (by decide)]
    have qg_7 : (va_up g 1 (upd (g 1) 0 (crc (n 4) (g 0)))) 7 = g 7 := by rw [va_up_ne _ _ (by decide)]
    have qg_8 : (va_up g 1 (upd (g 1) 0 (crc (n 4) (g 0)))) 8 = g 8 := by rw [va_up_ne _ _ (by decide)]
    have qg_9 : (va_up g 1 (upd (g 1) 0 (crc (n 4) (g 0)))) 9 = g 9 := by rw [va_up_ne _ _ (by decide)]
    have qg_10 : (va_up g 1 (upd (g 1) 0 (crc (n 4) (g 0)))) 10 = g 10 := by rw [va_up_ne _ _ (by decide)]
    have qg_11 : (va_up g 1 (upd (g 1) 0 (crc (n 4) (g 0)))) 11 = g 11 := by rw [va_up_ne _ _ (by decide)]
    have qg_12 : (va_up g 1 (upd (g 1) 0 (crc (n 4) (g 0)))) 12 = g 12 := by rw [va_up_ne _ _ (by decide)]
    have qg_13 : (va_up g 1 (upd (g 1) 0 (crc (n 4) (g 0)))) 13 = g 13 := by rw [va_up_ne _ _ (by decide)]
    have hRz : RepX ca ad (va_up n 1 4) (va_up g 1 (upd (g 1) 0 (crc (n 4) (g 0)))) z zn tb f_5 := ⟨(by rw [qn_0, qn_1, qn_2, qn_3, qg_13]; exact c_0),
          c_1,
          c_2,
          c_3,
          c_4,
          c_5,
          (by rw [qn_4]; exact c_6),
          (by rw [qg_0]; exact c_7),
          (by rw [qg_1]; exact c_8),
          c_9,
          (by rw [qn_5]; exact c_90),
          c_91,
          c_92,
          c_93,
          c_94,
          c_95,
          (by rw [qg_4]; exact c_96),
          (by rw [qg_5]; exact c_97),
          (by rw [qg_6]; exact c_98),
          c_99,
          (by rw [qg_2]; exact c_300),
          (by rw [qg_3]; exact c_301),
          (fun i9 hi9 => by rw [qg_7, qg_8, qg_9, qg_10, qg_11, qg_12]; rw [ef_5, va_up_ne _ _ (by omega), ef_4, va_up_ne _ _ (by omega)]; exact F_kf i9 hi9),
          (fun i9 hi9 => by rw [va_up_ne _ _ (by omega)]; rw [ef_5, va_up_ne _ _ (by omega), ef_4, va_up_ne _ _ (by omega)]; exact F_oc i9 hi9),
          (fun i9 hi9 => by rw [va_up_ne _ _ (by omega)]; rw [ef_5, va_up_ne _ _ (by omega), ef_4, va_up_ne _ _ (by omega)]; exact F_va i9 hi9),
          (fun i9 hi9 => by rw [va_up_ne _ _ (by omega)]; rw [ef_5, va_up_ne _ _ (by omega), ef_4, va_up_ne _ _ (by omega)]; exact F_lw i9 hi9),
          (fun i9 hi9 => by rw [va_up_ne _ _ (by omega)]; rw [ef_5, va_up_ne _ _ (by omega), ef_4, va_up_ne _ _ (by omega)]; exact F_M i9 hi9), hzn, hT⟩
    exact x_iret hx hb hr hlocks hw ⟨rfl, z, zn, hRz, (fun y hy => by rw [ef_5, va_up_ne _ _ (by omega), ef_4, va_up_ne _ _ (by omega)])⟩ dX5_digest_63

set_option maxHeartbeats 4000000 in
set_option maxRecDepth 100000 in
theorem k_X5_digest_no (l : Launch) (D : va_G) (ca : Nat → ClassId) (N : Nat) (ad : Nat → Nat) (B tR tK : Nat) (f : Nat → va_E) (dd : xD N ad B) (hN : 302 ≤ N) (n : Nat → Nat) (g : Nat → Nat → Int32) (z : Nat → Nat → Int32) (zn : Nat) (tb : Nat → Int32) (hR : RepX ca ad n g z zn tb f) (x : Int32) (h0 : ¬ x = 0) (h1 : ¬ x = nI 1) : xMi l yX5_digest wsX5_digest rmX5_digest [.ref (ad 0), .int x] D ca N ad B tR tK f (fun r u => (-2) = r ∧ ∃ (z1 : Nat → Nat → Int32) (zn1 : Nat), RepX ca ad n g z1 zn1 tb u ∧ ∀ y, 302 ≤ y → u y = f y) := by
  refine x_open (cc := cX5_digest) (maxL := 2) (ret := (some .int)) (by decide) rfl (Nat.le_of_ble_eq_true rfl) ?_
  intro p e s m below meth c ls hx hb hml hown hts hr hlocks hnm hB hK hE hw hl
  have hown : s.vm.findClass RX5 = some m.cls := hown
  have hl : lv_has ls 2 [(0, .ref (ad 0)), (1, .int x)] := hl
  obtain ⟨c_0, c_1, c_2, c_3, c_4, c_5, c_6, c_7, c_8, c_9, c_90, c_91, c_92, c_93, c_94, c_95, c_96, c_97, c_98, c_99, c_300, c_301, F_kf, F_oc, F_va, F_lw, F_M, hzn, hT⟩ := hR
  have b_0 := c_0
  have b_1 := c_1
  have b_2 := c_2
  have b_3 := c_3
  have b_4 := c_4
  have b_5 := c_5
  have b_6 := c_6
  have b_7 := c_7
  have b_8 := c_8
  have b_9 := c_9
  have b_90 := c_90
  have b_91 := c_91
  have b_92 := c_92
  have b_93 := c_93
  have b_94 := c_94
  have b_95 := c_95
  have b_96 := c_96
  have b_97 := c_97
  have b_98 := c_98
  have b_99 := c_99
  have b_300 := c_300
  have b_301 := c_301
  refine lv_iload_n hx hb dX5_digest_0 rfl (lv_at hl 1 rfl) ?_
  refine lv_if_ne (tgt := 35) hx hb dX5_digest_1 (by decide) (fun hc_1 => ?_) (fun hc_1 => ?_)
  · refine lv_iload_n hx hb dX5_digest_35 rfl (lv_at hl 1 rfl) ?_
    refine lv_iconst (v := nI 1) hx hb dX5_digest_36 (by decide) ?_
    refine lv_icmp_ne (tgt := 64) hx hb dX5_digest_37 (by decide) (fun hc_37 => ?_) (fun hc_37 => ?_)
    · refine lv_bipush (v := (-2)) hx hb dX5_digest_64 (by decide) ?_
      have hRz : RepX ca ad n g z zn tb f := ⟨c_0,
            c_1,
            c_2,
            c_3,
            c_4,
            c_5,
            c_6,
            c_7,
            c_8,
            c_9,
            c_90,
            c_91,
            c_92,
            c_93,
            c_94,
            c_95,
            c_96,
            c_97,
            c_98,
            c_99,
            c_300,
            c_301,
            (fun i9 hi9 => by exact F_kf i9 hi9),
            (fun i9 hi9 => by exact F_oc i9 hi9),
            (fun i9 hi9 => by exact F_va i9 hi9),
            (fun i9 hi9 => by exact F_lw i9 hi9),
            (fun i9 hi9 => by exact F_M i9 hi9), hzn, hT⟩
      exact x_iret hx hb hr hlocks hw ⟨rfl, z, zn, hRz, (fun _ _ => rfl)⟩ dX5_digest_66
    · exact absurd hc_37 h1
  · exact absurd hc_1 h0

abbrev rmX5_alter : Room := { frames := 2, cells := 0, slots := 0, locals := 43 }

set_option maxHeartbeats 4000000 in
set_option maxRecDepth 100000 in
theorem k_X5_alter_nofile (l : Launch) (D : va_G) (ca : Nat → ClassId) (N : Nat) (ad : Nat → Nat) (B tR tK : Nat) (f : Nat → va_E) (dd : xD N ad B) (hN : 302 ≤ N) (n : Nat → Nat) (g : Nat → Nat → Int32) (z : Nat → Nat → Int32) (zn : Nat) (tb : Nat → Int32) (hR : RepX ca ad n g z zn tb f) (x : Int32) (y : Int32) (w : Int32) (ho : x < 0 ∨ nI (n 2) ≤ x) : xMi l yX5_alter wsX5_alter rmX5_alter [.ref (ad 0), .int x, .int y, .int w] D ca N ad B tR tK f (fun r u => (-1) = r ∧ ∃ (z1 : Nat → Nat → Int32) (zn1 : Nat), RepX ca ad n g z1 zn1 tb u ∧ ∀ y, 302 ≤ y → u y = f y) := by
  refine x_open (cc := cX5_alter) (maxL := 6) (ret := (some .int)) (by decide) rfl (Nat.le_of_ble_eq_true rfl) ?_
  intro p e s m below meth c ls hx hb hml hown hts hr hlocks hnm hB hK hE hw hl
  have hown : s.vm.findClass RX5 = some m.cls := hown
  have hl : lv_has ls 6 [(0, .ref (ad 0)), (1, .int x), (2, .int y), (3, .int w)] := hl
  obtain ⟨c_0, c_1, c_2, c_3, c_4, c_5, c_6, c_7, c_8, c_9, c_90, c_91, c_92, c_93, c_94, c_95, c_96, c_97, c_98, c_99, c_300, c_301, F_kf, F_oc, F_va, F_lw, F_M, hzn, hT⟩ := hR
  have b_0 := c_0
  have b_1 := c_1
  have b_2 := c_2
  have b_3 := c_3
  have b_4 := c_4
  have b_5 := c_5
  have b_6 := c_6
  have b_7 := c_7
  have b_8 := c_8
  have b_9 := c_9
  have b_90 := c_90
  have b_91 := c_91
  have b_92 := c_92
  have b_93 := c_93
  have b_94 := c_94
  have b_95 := c_95
  have b_96 := c_96
  have b_97 := c_97
  have b_98 := c_98
  have b_99 := c_99
  have b_300 := c_300
  have b_301 := c_301
  refine lv_aload_n hx hb dX5_alter_0 rfl (lv_at hl 0 rfl) ?_
  refine lv_iload_n hx hb dX5_alter_1 rfl (lv_at hl 1 rfl) ?_
  have hRk : RepX ca ad n g z zn tb f := ⟨c_0,
        c_1,
        c_2,
        c_3,
        c_4,
        c_5,
        c_6,
        c_7,
        c_8,
        c_9,
        c_90,
        c_91,
        c_92,
        c_93,
        c_94,
        c_95,
        c_96,
        c_97,
        c_98,
        c_99,
        c_300,
        c_301,
        (fun i9 hi9 => by exact F_kf i9 hi9),
        (fun i9 hi9 => by exact F_oc i9 hi9),
        (fun i9 hi9 => by exact F_va i9 hi9),
        (fun i9 hi9 => by exact F_lw i9 hi9),
        (fun i9 hi9 => by exact F_M i9 hi9), hzn, hT⟩
  have hfr : ∀ y, 302 ≤ y → f y = f y := (fun _ _ => rfl)
  refine x_Vi (q := 0) (As := [.int x]) (rest := []) ⟨hx, hb, hml, hown, hts⟩ (k_X5_isFile_no l D ca N ad B tR tK f dd hN n g z zn tb hRk x ho) (cwV 1 hts gX5_alter_X5_isFile rfl rfl rfl (by decide +kernel) ⟨Nat.le_of_ble_eq_true rfl, Nat.le_of_ble_eq_true rfl⟩) hK hE hB hw (by omega) c_0 rfl rfl rfl rfl hl.1 (Nat.le_of_ble_eq_true rfl) ⟨Nat.zero_le _, Nat.zero_le _⟩ dX5_alter_2 (fun r_2 f_1 H locs hp hw => ?_)
  obtain ⟨er, hp⟩ := hp
  rw [← er]
  rw [← hp] at hw
  refine lv_if_ne (tgt := 10) hx hb dX5_alter_5 (by decide) (fun h => False.elim (h (by decide))) (fun _ => ?_)
  refine lv_iconst (v := (-1)) hx hb dX5_alter_8 (by decide) ?_
  have hRz : RepX ca ad n g z zn tb f := ⟨c_0,
        c_1,
        c_2,
        c_3,
        c_4,
        c_5,
        c_6,
        c_7,
        c_8,
        c_9,
        c_90,
        c_91,
        c_92,
        c_93,
        c_94,
        c_95,
        c_96,
        c_97,
        c_98,
        c_99,
        c_300,
        c_301,
        (fun i9 hi9 => by exact F_kf i9 hi9),
        (fun i9 hi9 => by exact F_oc i9 hi9),
        (fun i9 hi9 => by exact F_va i9 hi9),
        (fun i9 hi9 => by exact F_lw i9 hi9),
        (fun i9 hi9 => by exact F_M i9 hi9), hzn, hT⟩
  exact x_iret hx hb hr hlocks hw ⟨rfl, z, zn, hRz, (fun _ _ => rfl)⟩ dX5_alter_9

set_option maxHeartbeats 4000000 in
set_option maxRecDepth 100000 in
theorem k_X5_alter_nobyte (l : Launch) (D : va_G) (ca : Nat → ClassId) (N : Nat) (ad : Nat → Nat) (B tR tK : Nat) (f : Nat → va_E) (dd : xD N ad B) (hN : 302 ≤ N) (n : Nat → Nat) (g : Nat → Nat → Int32) (z : Nat → Nat → Int32) (zn : Nat) (tb : Nat → Int32) (hR : RepX ca ad n g z zn tb f) (i : Nat) (y : Int32) (w : Int32) (h2 : n 2 ≤ 20) (hsz : ∀ i, i < 20 → n (10 + i) ≤ 200) (hi : i < n 2) (ho : y < 0 ∨ nI (n (10 + i)) ≤ y) : xMi l yX5_alter wsX5_alter rmX5_alter [.ref (ad 0), .int (nI i), .int y, .int w] D ca N ad B tR tK f (fun r u => (-1) = r ∧ ∃ (z1 : Nat → Nat → Int32) (zn1 : Nat), RepX ca ad n g z1 zn1 tb u ∧ ∀ y, 302 ≤ y → u y = f y) := by
  refine x_open (cc := cX5_alter) (maxL := 6) (ret := (some .int)) (by decide) rfl (Nat.le_of_ble_eq_true rfl) ?_
  intro p e s m below meth c ls hx hb hml hown hts hr hlocks hnm hB hK hE hw hl
  have hown : s.vm.findClass RX5 = some m.cls := hown
  have hl : lv_has ls 6 [(0, .ref (ad 0)), (1, .int (nI i)), (2, .int y), (3, .int w)] := hl
  obtain ⟨c_0, c_1, c_2, c_3, c_4, c_5, c_6, c_7, c_8, c_9, c_90, c_91, c_92, c_93, c_94, c_95, c_96, c_97, c_98, c_99, c_300, c_301, F_kf, F_oc, F_va, F_lw, F_M, hzn, hT⟩ := hR
  have hin_6 : ∀ w ∈ u_ws RX5 TX5 13, w ∈ wsX5_alter := by decide +kernel
  have hf_49 := hts (.fieldLink RX5 49 "FixityRows" "files" "[LFixityRows$KeptFile;") (by decide +kernel)
  have hin_1 : ∀ w ∈ u_ws RX0 TX0 8, w ∈ wsX5_alter := by decide +kernel
  have b_0 := c_0
  have b_1 := c_1
  have b_2 := c_2
  have b_3 := c_3
  have b_4 := c_4
  have b_5 := c_5
  have b_6 := c_6
  have b_7 := c_7
  have b_8 := c_8
  have b_9 := c_9
  have b_90 := c_90
  have b_91 := c_91
  have b_92 := c_92
  have b_93 := c_93
  have b_94 := c_94
  have b_95 := c_95
  have b_96 := c_96
  have b_97 := c_97
  have b_98 := c_98
  have b_99 := c_99
  have b_300 := c_300
  have b_301 := c_301
  refine lv_aload_n hx hb dX5_alter_0 rfl (lv_at hl 0 rfl) ?_
  refine lv_iload_n hx hb dX5_alter_1 rfl (lv_at hl 1 rfl) ?_
  have hRk : RepX ca ad n g z zn tb f := ⟨c_0,
        c_1,
        c_2,
        c_3,
        c_4,
        c_5,
        c_6,
        c_7,
        c_8,
        c_9,
        c_90,
        c_91,
        c_92,
        c_93,
        c_94,
        c_95,
        c_96,
        c_97,
        c_98,
        c_99,
        c_300,
        c_301,
        (fun i9 hi9 => by exact F_kf i9 hi9),
        (fun i9 hi9 => by exact F_oc i9 hi9),
        (fun i9 hi9 => by exact F_va i9 hi9),
        (fun i9 hi9 => by exact F_lw i9 hi9),
        (fun i9 hi9 => by exact F_M i9 hi9), hzn, hT⟩
  have hfr : ∀ y, 302 ≤ y → f y = f y := (fun _ _ => rfl)
  refine x_Vi (q := 0) (As := [.int (nI i)]) (rest := []) ⟨hx, hb, hml, hown, hts⟩ (k_X5_isFile_yes l D ca N ad B tR tK f dd hN n g z zn tb hRk i (by omega) (by omega)) (cwV 1 hts gX5_alter_X5_isFile rfl rfl rfl (by decide +kernel) ⟨Nat.le_of_ble_eq_true rfl, Nat.le_of_ble_eq_true rfl⟩) hK hE hB hw (by omega) c_0 rfl rfl rfl rfl hl.1 (Nat.le_of_ble_eq_true rfl) ⟨Nat.zero_le _, Nat.zero_le _⟩ dX5_alter_2 (fun r_2 f_1 H locs hp hw => ?_)
  obtain ⟨er, hp⟩ := hp
  rw [← er]
  rw [← hp] at hw
  refine lv_if_ne (tgt := 10) hx hb dX5_alter_5 (by decide) (fun _ => ?_) (fun h => absurd h (by decide))
  refine lv_aload_n hx hb dX5_alter_10 rfl (lv_at hl 0 rfl) ?_
  refine x_get (ci := 6) (C := RX5) (T := TX5) (n := 13) (ref := RX5) hx hb hts hin_6 hown hK hw 0 (by omega) c_0 rfl 6 (by decide) hf_49 (fun _ h => h) rfl dX5_alter_11 ?_
  refine lv_iload_n hx hb dX5_alter_14 rfl (lv_at hl 1 rfl) ?_
  refine x_aald (j := i) (a := ad (10 + 4 * i)) hx hb hK hw 9 3 (by omega) c_9 rfl rfl (by omega) (by decide) rfl dX5_alter_15 ?_
  have c_10_4_i : f (10 + 4 * i) = .inr (1, [.ref (ad (11 + 4 * i)), .ref (ad (13 + 4 * i)), .int (g 7 i), .int (g 8 i), .int (g 9 i), .int (g 10 i), .int (g 11 i), .int (g 12 i)]) := (F_kf i (by omega))
  refine x_getN (ci := 1) (C := RX0) (T := TX0) (n := 8) (ref := RX0) hx hb hts hin_1 hown hK hw (10 + 4 * i) (by omega) c_10_4_i rfl 0 (by decide) (hE.1 (103, "octets", "LFixityRows$Octets;") (by decide)) (fun _ h => h) rfl dX5_alter_16 ?_
  refine lv_astore (lv' := [(4, .ref (ad (11 + 4 * i))), (0, .ref (ad 0)), (1, .int (nI i)), (2, .int y), (3, .int w)]) hx hb dX5_alter_19 hl (by decide) rfl (fun ls hl => ?_)
  refine lv_aload hx hb dX5_alter_21 (lv_at hl 0 rfl) ?_
  refine lv_iload_n hx hb dX5_alter_23 rfl (lv_at hl 3 rfl) ?_
  have c_11_4_i : f (11 + 4 * i) = .inr (3, [.ref (ad (12 + 4 * i)), .int (nI (n (10 + i)))]) := (F_oc i (by omega))
  refine x_Vi (q := 11 + 4 * i) (As := [.int y]) (rest := []) ⟨hx, hb, hml, hown, hts⟩ (k_X2_has_out l D ca N ad B tR tK f dd (11 + 4 * i) (12 + 4 * i) (n (10 + i)) y (by omega) c_11_4_i  ho) (cwV 1 hts gX5_alter_X2_has rfl rfl rfl (by decide +kernel) ⟨Nat.le_of_ble_eq_true rfl, Nat.le_of_ble_eq_true rfl⟩) hK hE hB hw (by omega) c_11_4_i rfl rfl rfl rfl hl.1 (Nat.le_of_ble_eq_true rfl) ⟨Nat.zero_le _, Nat.zero_le _⟩ dX5_alter_24 (fun r_4 f_3 H locs hp hw => ?_)
  obtain ⟨er, eu⟩ := hp
  rw [← er]
  rw [← eu] at hw
  refine lv_if_ne (tgt := 32) hx hb dX5_alter_27 (by decide) (fun h => False.elim (h (by decide))) (fun _ => ?_)
  refine lv_iconst (v := (-1)) hx hb dX5_alter_30 (by decide) ?_
  have hRz : RepX ca ad n g z zn tb f := ⟨c_0,
        c_1,
        c_2,
        c_3,
        c_4,
        c_5,
        c_6,
        c_7,
        c_8,
        c_9,
        c_90,
        c_91,
        c_92,
        c_93,
        c_94,
        c_95,
        c_96,
        c_97,
        c_98,
        c_99,
        c_300,
        c_301,
        (fun i9 hi9 => by exact F_kf i9 hi9),
        (fun i9 hi9 => by exact F_oc i9 hi9),
        (fun i9 hi9 => by exact F_va i9 hi9),
        (fun i9 hi9 => by exact F_lw i9 hi9),
        (fun i9 hi9 => by exact F_M i9 hi9), hzn, hT⟩
  exact x_iret hx hb hr hlocks hw ⟨rfl, z, zn, hRz, (fun _ _ => rfl)⟩ dX5_alter_31

set_option maxHeartbeats 4000000 in
set_option maxRecDepth 100000 in
theorem k_X5_alter_in (l : Launch) (D : va_G) (ca : Nat → ClassId) (N : Nat) (ad : Nat → Nat) (B tR tK : Nat) (f : Nat → va_E) (dd : xD N ad B) (hN : 302 ≤ N) (n : Nat → Nat) (g : Nat → Nat → Int32) (z : Nat → Nat → Int32) (zn : Nat) (tb : Nat → Int32) (hR : RepX ca ad n g z zn tb f) (i : Nat) (j : Nat) (w : Int32) (h2 : n 2 ≤ 20) (hsz : ∀ i, i < 20 → n (10 + i) ≤ 200) (hi : i < n 2) (hj : j < n (10 + i)) : xMi l yX5_alter wsX5_alter rmX5_alter [.ref (ad 0), .int (nI i), .int (nI j), .int w] D ca N ad B tR tK f (fun r u => g (100 + i) j = r ∧ ∃ (z1 : Nat → Nat → Int32) (zn1 : Nat), RepX ca ad n (va_up g (100 + i) (upd (g (100 + i)) j (w &&& nI 255))) z1 zn1 tb u ∧ ∀ y, 302 ≤ y → u y = f y) := by
  refine x_open (cc := cX5_alter) (maxL := 6) (ret := (some .int)) (by decide) rfl (Nat.le_of_ble_eq_true rfl) ?_
  intro p e s m below meth c ls hx hb hml hown hts hr hlocks hnm hB hK hE hw hl
  have hown : s.vm.findClass RX5 = some m.cls := hown
  have hl : lv_has ls 6 [(0, .ref (ad 0)), (1, .int (nI i)), (2, .int (nI j)), (3, .int w)] := hl
  obtain ⟨c_0, c_1, c_2, c_3, c_4, c_5, c_6, c_7, c_8, c_9, c_90, c_91, c_92, c_93, c_94, c_95, c_96, c_97, c_98, c_99, c_300, c_301, F_kf, F_oc, F_va, F_lw, F_M, hzn, hT⟩ := hR
  have hin_6 : ∀ w ∈ u_ws RX5 TX5 13, w ∈ wsX5_alter := by decide +kernel
  have hf_49 := hts (.fieldLink RX5 49 "FixityRows" "files" "[LFixityRows$KeptFile;") (by decide +kernel)
  have hin_1 : ∀ w ∈ u_ws RX0 TX0 8, w ∈ wsX5_alter := by decide +kernel
  have b_0 := c_0
  have b_1 := c_1
  have b_2 := c_2
  have b_3 := c_3
  have b_4 := c_4
  have b_5 := c_5
  have b_6 := c_6
  have b_7 := c_7
  have b_8 := c_8
  have b_9 := c_9
  have b_90 := c_90
  have b_91 := c_91
  have b_92 := c_92
  have b_93 := c_93
  have b_94 := c_94
  have b_95 := c_95
  have b_96 := c_96
  have b_97 := c_97
  have b_98 := c_98
  have b_99 := c_99
  have b_300 := c_300
  have b_301 := c_301
  refine lv_aload_n hx hb dX5_alter_0 rfl (lv_at hl 0 rfl) ?_
  refine lv_iload_n hx hb dX5_alter_1 rfl (lv_at hl 1 rfl) ?_
  have hRk : RepX ca ad n g z zn tb f := ⟨c_0,
        c_1,
        c_2,
        c_3,
        c_4,
        c_5,
        c_6,
        c_7,
        c_8,
        c_9,
        c_90,
        c_91,
        c_92,
        c_93,
        c_94,
        c_95,
        c_96,
        c_97,
        c_98,
        c_99,
        c_300,
        c_301,
        (fun i9 hi9 => by exact F_kf i9 hi9),
        (fun i9 hi9 => by exact F_oc i9 hi9),
        (fun i9 hi9 => by exact F_va i9 hi9),
        (fun i9 hi9 => by exact F_lw i9 hi9),
        (fun i9 hi9 => by exact F_M i9 hi9), hzn, hT⟩
  have hfr : ∀ y, 302 ≤ y → f y = f y := (fun _ _ => rfl)
  refine x_Vi (q := 0) (As := [.int (nI i)]) (rest := []) ⟨hx, hb, hml, hown, hts⟩ (k_X5_isFile_yes l D ca N ad B tR tK f dd hN n g z zn tb hRk i (by omega) (by omega)) (cwV 1 hts gX5_alter_X5_isFile rfl rfl rfl (by decide +kernel) ⟨Nat.le_of_ble_eq_true rfl, Nat.le_of_ble_eq_true rfl⟩) hK hE hB hw (by omega) c_0 rfl rfl rfl rfl hl.1 (Nat.le_of_ble_eq_true rfl) ⟨Nat.zero_le _, Nat.zero_le _⟩ dX5_alter_2 (fun r_2 f_1 H locs hp hw => ?_)
  obtain ⟨er, hp⟩ := hp
  rw [← er]
  rw [← hp] at hw
  refine lv_if_ne (tgt := 10) hx hb dX5_alter_5 (by decide) (fun _ => ?_) (fun h => absurd h (by decide))
  have hs9 := hsz i (by omega)
  refine lv_aload_n hx hb dX5_alter_10 rfl (lv_at hl 0 rfl) ?_
  refine x_get (ci := 6) (C := RX5) (T := TX5) (n := 13) (ref := RX5) hx hb hts hin_6 hown hK hw 0 (by omega) c_0 rfl 6 (by decide) hf_49 (fun _ h => h) rfl dX5_alter_11 ?_
  refine lv_iload_n hx hb dX5_alter_14 rfl (lv_at hl 1 rfl) ?_
  refine x_aald (j := i) (a := ad (10 + 4 * i)) hx hb hK hw 9 3 (by omega) c_9 rfl rfl (by omega) (by decide) rfl dX5_alter_15 ?_
  have c_10_4_i : f (10 + 4 * i) = .inr (1, [.ref (ad (11 + 4 * i)), .ref (ad (13 + 4 * i)), .int (g 7 i), .int (g 8 i), .int (g 9 i), .int (g 10 i), .int (g 11 i), .int (g 12 i)]) := (F_kf i (by omega))
  refine x_getN (ci := 1) (C := RX0) (T := TX0) (n := 8) (ref := RX0) hx hb hts hin_1 hown hK hw (10 + 4 * i) (by omega) c_10_4_i rfl 0 (by decide) (hE.1 (103, "octets", "LFixityRows$Octets;") (by decide)) (fun _ h => h) rfl dX5_alter_16 ?_
  refine lv_astore (lv' := [(4, .ref (ad (11 + 4 * i))), (0, .ref (ad 0)), (1, .int (nI i)), (2, .int (nI j)), (3, .int w)]) hx hb dX5_alter_19 hl (by decide) rfl (fun ls hl => ?_)
  refine lv_aload hx hb dX5_alter_21 (lv_at hl 0 rfl) ?_
  refine lv_iload_n hx hb dX5_alter_23 rfl (lv_at hl 3 rfl) ?_
  have c_11_4_i : f (11 + 4 * i) = .inr (3, [.ref (ad (12 + 4 * i)), .int (nI (n (10 + i)))]) := (F_oc i (by omega))
  refine x_Vi (q := 11 + 4 * i) (As := [.int (nI j)]) (rest := []) ⟨hx, hb, hml, hown, hts⟩ (k_X2_has_in l D ca N ad B tR tK f dd (11 + 4 * i) (12 + 4 * i) (n (10 + i)) j (by omega) c_11_4_i  (by omega) (by omega)) (cwV 1 hts gX5_alter_X2_has rfl rfl rfl (by decide +kernel) ⟨Nat.le_of_ble_eq_true rfl, Nat.le_of_ble_eq_true rfl⟩) hK hE hB hw (by omega) c_11_4_i rfl rfl rfl rfl hl.1 (Nat.le_of_ble_eq_true rfl) ⟨Nat.zero_le _, Nat.zero_le _⟩ dX5_alter_24 (fun r_4 f_3 H locs hp hw => ?_)
  obtain ⟨er, eu⟩ := hp
  rw [← er]
  rw [← eu] at hw
  refine lv_if_ne (tgt := 32) hx hb dX5_alter_27 (by decide) (fun _ => ?_) (fun h => absurd h (by decide))
  refine lv_aload hx hb dX5_alter_32 (lv_at hl 0 rfl) ?_
  refine lv_iload_n hx hb dX5_alter_34 rfl (lv_at hl 3 rfl) ?_
  have c_12_4_i : f (12 + 4 * i) = ai (ca 0) 200 (g (100 + i)) := (F_va i (by omega))
  refine x_Vi (q := 11 + 4 * i) (As := [.int (nI j)]) (rest := []) ⟨hx, hb, hml, hown, hts⟩ (k_X2_value_in l D ca N ad B tR tK f dd (11 + 4 * i) (12 + 4 * i) (n (10 + i)) j (g (100 + i)) (by omega) c_11_4_i (by omega) c_12_4_i  (by omega) (by omega)) (cwV 1 hts gX5_alter_X2_value rfl rfl rfl (by decide +kernel) ⟨Nat.le_of_ble_eq_true rfl, Nat.le_of_ble_eq_true rfl⟩) hK hE hB hw (by omega) c_11_4_i rfl rfl rfl rfl hl.1 (Nat.le_of_ble_eq_true rfl) ⟨Nat.zero_le _, Nat.zero_le _⟩ dX5_alter_35 (fun r_6 f_5 H locs hp hw => ?_)
  obtain ⟨er, eu⟩ := hp
  rw [← er]
  rw [← eu] at hw
  refine lv_topi (fun x_7 ex_7 => ?_)
  refine lv_istore (lv' := [(5, .int x_7), (4, .ref (ad (11 + 4 * i))), (0, .ref (ad 0)), (1, .int (nI i)), (2, .int (nI j)), (3, .int w)]) hx hb dX5_alter_38 hl (by decide) rfl (fun ls hl => ?_)
  refine lv_aload hx hb dX5_alter_40 (lv_at hl 1 rfl) ?_
  refine lv_iload_n hx hb dX5_alter_42 rfl (lv_at hl 4 rfl) ?_
  refine lv_iload_n hx hb dX5_alter_43 rfl (lv_at hl 5 rfl) ?_
  refine x_Vv (q := 11 + 4 * i) (As := [.int (nI j), .int w]) (rest := []) ⟨hx, hb, hml, hown, hts⟩ (k_X2_replace_in l D ca N ad B tR tK f dd (11 + 4 * i) (12 + 4 * i) (n (10 + i)) j w (g (100 + i)) (by omega) c_11_4_i (by omega) c_12_4_i  (by omega) (by omega)) (cwV 2 hts gX5_alter_X2_replace rfl rfl rfl (by decide +kernel) ⟨Nat.le_of_ble_eq_true rfl, Nat.le_of_ble_eq_true rfl⟩) hK hE hB hw (by omega) c_11_4_i rfl rfl rfl rfl hl.1 (Nat.le_of_ble_eq_true rfl) ⟨Nat.zero_le _, Nat.zero_le _⟩ dX5_alter_44 (fun f_8 H locs hp hw => ?_)
  have eu := hp
  have ef_8 : f_8 = va_up f (12 + 4 * i) (ai (ca 0) 200 (upd (g (100 + i)) j (w &&& nI 255))) := eu
  have c_12_4_i : f_8 (12 + 4 * i) = ai (ca 0) 200 (upd (g (100 + i)) j (w &&& nI 255)) := by rw [ef_8, va_up_self]
  refine lv_iload hx hb dX5_alter_47 (lv_at hl 0 rfl) ?_
  have c_0 : f_8 0 = .inr (6, [.int (nI (n 0)), .ref (ad 1), .ref (ad 4), .ref (ad 6), .ref (ad 8), .int (nI (n 1)), .ref (ad 9), .int (nI (n 2)), .ref (ad 90), .ref (ad 300), .ref (ad 301), .int (nI (n 3)), .int (g 13 0)]) := by rw [ef_8, va_up_ne _ _ (by omega)]; exact c_0
  have c_1 : f_8 1 = .inr (2, [.ref (ad 2), .ref (ad 3)]) := by rw [ef_8, va_up_ne _ _ (by omega)]; exact c_1
  have c_2 : f_8 2 = ai (ca 0) 8 (z 0) := by rw [ef_8, va_up_ne _ _ (by omega)]; exact c_2
  have c_3 : f_8 3 = ai (ca 0) 64 (z 1) := by rw [ef_8, va_up_ne _ _ (by omega)]; exact c_3
  have c_4 : f_8 4 = .inr (5, [.ref (ad 5)]) := by rw [ef_8, va_up_ne _ _ (by omega)]; exact c_4
  have c_5 : f_8 5 = ai (ca 0) 256 tb := by rw [ef_8, va_up_ne _ _ (by omega)]; exact c_5
  have c_6 : f_8 6 = .inr (3, [.ref (ad 7), .int (nI (n 4))]) := by rw [ef_8, va_up_ne _ _ (by omega)]; exact c_6
  have c_7 : f_8 7 = ai (ca 0) 200 (g 0) := by rw [ef_8, va_up_ne _ _ (by omega)]; exact c_7
  have c_8 : f_8 8 = ai (ca 0) 8 (g 1) := by rw [ef_8, va_up_ne _ _ (by omega)]; exact c_8
  have c_9 : f_8 9 = aq (ca 3) 20 (fun i => some (ad (10 + 4 * i))) := by rw [ef_8, va_up_ne _ _ (by omega)]; exact c_9
  have c_90 : f_8 90 = .inr (4, [.ref (ad 91), .ref (ad 94), .ref (ad 96), .ref (ad 97), .ref (ad 98), .ref (ad 99), .int (nI (n 5))]) := by rw [ef_8, va_up_ne _ _ (by omega)]; exact c_90
  have c_91 : f_8 91 = .inr (2, [.ref (ad 92), .ref (ad 93)]) := by rw [ef_8, va_up_ne _ _ (by omega)]; exact c_91
  have c_92 : f_8 92 = ai (ca 0) 8 (z 2) := by rw [ef_8, va_up_ne _ _ (by omega)]; exact c_92
  have c_93 : f_8 93 = ai (ca 0) 64 (z 3) := by rw [ef_8, va_up_ne _ _ (by omega)]; exact c_93
  have c_94 : f_8 94 = .inr (3, [.ref (ad 95), .int (nI zn)]) := by rw [ef_8, va_up_ne _ _ (by omega)]; exact c_94
  have c_95 : f_8 95 = ai (ca 0) 200 (z 4) := by rw [ef_8, va_up_ne _ _ (by omega)]; exact c_95
  have c_96 : f_8 96 = ai (ca 0) 200 (g 4) := by rw [ef_8, va_up_ne _ _ (by omega)]; exact c_96
  have c_97 : f_8 97 = ai (ca 0) 200 (g 5) := by rw [ef_8, va_up_ne _ _ (by omega)]; exact c_97
  have c_98 : f_8 98 = ai (ca 0) 200 (g 6) := by rw [ef_8, va_up_ne _ _ (by omega)]; exact c_98
  have c_99 : f_8 99 = aq (ca 4) 200 (fun i => some (ad (100 + i))) := by rw [ef_8, va_up_ne _ _ (by omega)]; exact c_99
  have c_300 : f_8 300 = ai (ca 0) 20 (g 2) := by rw [ef_8, va_up_ne _ _ (by omega)]; exact c_300
  have c_301 : f_8 301 = ai (ca 2) 20 (g 3) := by rw [ef_8, va_up_ne _ _ (by omega)]; exact c_301
  have qg_0 : (va_up g (100 + i) (upd (g (100 + i)) j (w &&& nI 255))) 0 = g 0 := by rw [va_up_ne _ _ (by omega)]
  have qg_1 : (va_up g (100 + i) (upd (g (100 + i)) j (w &&& nI 255))) 1 = g 1 := by rw [va_up_ne _ _ (by omega)]
  have qg_2 : (va_up g (100 + i) (upd (g (100 + i)) j (w &&& nI 255))) 2 = g 2 := by rw [va_up_ne _ _ (by omega)]
  have qg_3 : (va_up g (100 + i) (upd (g (100 + i)) j (w &&& nI 255))) 3 = g 3 := by rw [va_up_ne _ _ (by omega)]
  have qg_4 : (va_up g (100 + i) (upd (g (100 + i)) j (w &&& nI 255))) 4 = g 4 := by rw [va_up_ne _ _ (by omega)]
  have qg_5 : (va_up g (100 + i) (upd (g (100 + i)) j (w &&& nI 255))) 5 = g 5 := by rw [va_up_ne _ _ (by omega)]
  have qg_6 : (va_up g (100 + i) (upd (g (100 + i)) j (w &&& nI 255))) 6 = g 6 := by rw [va_up_ne _ _ (by omega)]
  have qg_7 : (va_up g (100 + i) (upd (g (100 + i)) j (w &&& nI 255))) 7 = g 7 := by rw [va_up_ne _ _ (by omega)]
  have qg_8 : (va_up g (100 + i) (upd (g (100 + i)) j (w &&& nI 255))) 8 = g 8 := by rw [va_up_ne _ _ (by omega)]
  have qg_9 : (va_up g (100 + i) (upd (g (100 + i)) j (w &&& nI 255))) 9 = g 9 := by rw [va_up_ne _ _ (by omega)]
  have qg_10 : (va_up g (100 + i) (upd (g (100 + i)) j (w &&& nI 255))) 10 = g 10 := by rw [va_up_ne _ _ (by omega)]
  have qg_11 : (va_up g (100 + i) (upd (g (100 + i)) j (w &&& nI 255))) 11 = g 11 := by rw [va_up_ne _ _ (by omega)]
  have qg_12 : (va_up g (100 + i) (upd (g (100 + i)) j (w &&& nI 255))) 12 = g 12 := by rw [va_up_ne _ _ (by omega)]
  have qg_13 : (va_up g (100 + i) (upd (g (100 + i)) j (w &&& nI 255))) 13 = g 13 := by rw [va_up_ne _ _ (by omega)]
  have hRz : RepX ca ad n (va_up g (100 + i) (upd (g (100 + i)) j (w &&& nI 255))) z zn tb f_8 := ⟨(by rw [qg_13]; exact c_0),
        c_1,
        c_2,
        c_3,
        c_4,
        c_5,
        c_6,
        (by rw [qg_0]; exact c_7),
        (by rw [qg_1]; exact c_8),
        c_9,
        c_90,
        c_91,
        c_92,
        c_93,
        c_94,
        c_95,
        (by rw [qg_4]; exact c_96),
        (by rw [qg_5]; exact c_97),
        (by rw [qg_6]; exact c_98),
        c_99,
        (by rw [qg_2]; exact c_300),
        (by rw [qg_3]; exact c_301),
        (fun i9 hi9 => by rw [qg_7, qg_8, qg_9, qg_10, qg_11, qg_12]; rw [ef_8, va_up_ne _ _ (by omega)]; exact F_kf i9 hi9),
        (fun i9 hi9 => by rw [ef_8, va_up_ne _ _ (by omega)]; exact F_oc i9 hi9),
        (fun i9 hi9 => by
        by_cases ei : i9 = i
        · rw [ei, va_up_self]; exact c_12_4_i
        · rw [va_up_ne _ _ (by omega)]; rw [ef_8, va_up_ne _ _ (by omega)]; exact F_va i9 hi9),
        (fun i9 hi9 => by rw [va_up_ne _ _ (by omega)]; rw [ef_8, va_up_ne _ _ (by omega)]; exact F_lw i9 hi9),
        (fun i9 hi9 => by rw [va_up_ne _ _ (by omega)]; rw [ef_8, va_up_ne _ _ (by omega)]; exact F_M i9 hi9), hzn, hT⟩
  exact x_iret hx hb hr hlocks hw ⟨(by first | rfl | (simp only [*])), z, zn, hRz, (fun y hy => by rw [ef_8, va_up_ne _ _ (by omega)])⟩ dX5_alter_49

abbrev rmX5_cut : Room := { frames := 1, cells := 0, slots := 0, locals := 21 }

set_option maxHeartbeats 4000000 in
set_option maxRecDepth 100000 in
theorem k_X5_cut_nofile (l : Launch) (D : va_G) (ca : Nat → ClassId) (N : Nat) (ad : Nat → Nat) (B tR tK : Nat) (f : Nat → va_E) (dd : xD N ad B) (hN : 302 ≤ N) (n : Nat → Nat) (g : Nat → Nat → Int32) (z : Nat → Nat → Int32) (zn : Nat) (tb : Nat → Int32) (hR : RepX ca ad n g z zn tb f) (x : Int32) (y : Int32) (ho : x < 0 ∨ nI (n 2) ≤ x) : xMi l yX5_cut wsX5_cut rmX5_cut [.ref (ad 0), .int x, .int y] D ca N ad B tR tK f (fun r u => (-1) = r ∧ ∃ (z1 : Nat → Nat → Int32) (zn1 : Nat), RepX ca ad n g z1 zn1 tb u ∧ ∀ y, 302 ≤ y → u y = f y) := by
  refine x_open (cc := cX5_cut) (maxL := 5) (ret := (some .int)) (by decide) rfl (Nat.le_of_ble_eq_true rfl) ?_
  intro p e s m below meth c ls hx hb hml hown hts hr hlocks hnm hB hK hE hw hl
  have hown : s.vm.findClass RX5 = some m.cls := hown
  have hl : lv_has ls 5 [(0, .ref (ad 0)), (1, .int x), (2, .int y)] := hl
  obtain ⟨c_0, c_1, c_2, c_3, c_4, c_5, c_6, c_7, c_8, c_9, c_90, c_91, c_92, c_93, c_94, c_95, c_96, c_97, c_98, c_99, c_300, c_301, F_kf, F_oc, F_va, F_lw, F_M, hzn, hT⟩ := hR
  have b_0 := c_0
  have b_1 := c_1
  have b_2 := c_2
  have b_3 := c_3
  have b_4 := c_4
  have b_5 := c_5
  have b_6 := c_6
  have b_7 := c_7
  have b_8 := c_8
  have b_9 := c_9
  have b_90 := c_90
  have b_91 := c_91
  have b_92 := c_92
  have b_93 := c_93
  have b_94 := c_94
  have b_95 := c_95
  have b_96 := c_96
  have b_97 := c_97
  have b_98 := c_98
  have b_99 := c_99
  have b_300 := c_300
  have b_301 := c_301
  refine lv_aload_n hx hb dX5_cut_0 rfl (lv_at hl 0 rfl) ?_
  refine lv_iload_n hx hb dX5_cut_1 rfl (lv_at hl 1 rfl) ?_
  have hRk : RepX ca ad n g z zn tb f := ⟨c_0,
        c_1,
        c_2,
        c_3,
        c_4,
        c_5,
        c_6,
        c_7,
        c_8,
        c_9,
        c_90,
        c_91,
        c_92,
        c_93,
        c_94,
        c_95,
        c_96,
        c_97,
        c_98,
        c_99,
        c_300,
        c_301,
        (fun i9 hi9 => by exact F_kf i9 hi9),
        (fun i9 hi9 => by exact F_oc i9 hi9),
        (fun i9 hi9 => by exact F_va i9 hi9),
        (fun i9 hi9 => by exact F_lw i9 hi9),
        (fun i9 hi9 => by exact F_M i9 hi9), hzn, hT⟩
  have hfr : ∀ y, 302 ≤ y → f y = f y := (fun _ _ => rfl)
  refine x_Vi (q := 0) (As := [.int x]) (rest := []) ⟨hx, hb, hml, hown, hts⟩ (k_X5_isFile_no l D ca N ad B tR tK f dd hN n g z zn tb hRk x ho) (cwV 1 hts gX5_cut_X5_isFile rfl rfl rfl (by decide +kernel) ⟨Nat.le_of_ble_eq_true rfl, Nat.le_of_ble_eq_true rfl⟩) hK hE hB hw (by omega) c_0 rfl rfl rfl rfl hl.1 (Nat.le_of_ble_eq_true rfl) ⟨Nat.zero_le _, Nat.zero_le _⟩ dX5_cut_2 (fun r_2 f_1 H locs hp hw => ?_)
  obtain ⟨er, hp⟩ := hp
  rw [← er]
  rw [← hp] at hw
  refine lv_if_ne (tgt := 10) hx hb dX5_cut_5 (by decide) (fun h => False.elim (h (by decide))) (fun _ => ?_)
  refine lv_iconst (v := (-1)) hx hb dX5_cut_8 (by decide) ?_
  have hRz : RepX ca ad n g z zn tb f := ⟨c_0,
        c_1,
        c_2,
        c_3,
        c_4,
        c_5,
        c_6,
        c_7,
        c_8,
        c_9,
        c_90,
        c_91,
        c_92,
        c_93,
        c_94,
        c_95,
        c_96,
        c_97,
        c_98,
        c_99,
        c_300,
        c_301,
        (fun i9 hi9 => by exact F_kf i9 hi9),
        (fun i9 hi9 => by exact F_oc i9 hi9),
        (fun i9 hi9 => by exact F_va i9 hi9),
        (fun i9 hi9 => by exact F_lw i9 hi9),
        (fun i9 hi9 => by exact F_M i9 hi9), hzn, hT⟩
  exact x_iret hx hb hr hlocks hw ⟨rfl, z, zn, hRz, (fun _ _ => rfl)⟩ dX5_cut_9

set_option maxHeartbeats 4000000 in
set_option maxRecDepth 100000 in
theorem k_X5_cut_range (l : Launch) (D : va_G) (ca : Nat → ClassId) (N : Nat) (ad : Nat → Nat) (B tR tK : Nat) (f : Nat → va_E) (dd : xD N ad B) (hN : 302 ≤ N) (n : Nat → Nat) (g : Nat → Nat → Int32) (z : Nat → Nat → Int32) (zn : Nat) (tb : Nat → Int32) (hR : RepX ca ad n g z zn tb f) (i : Nat) (y : Int32) (h2 : n 2 ≤ 20) (hsz : ∀ i, i < 20 → n (10 + i) ≤ 200) (hi : i < n 2) (ho : y < 0 ∨ nI (n (10 + i)) < y) : xMi l yX5_cut wsX5_cut rmX5_cut [.ref (ad 0), .int (nI i), .int y] D ca N ad B tR tK f (fun r u => (-2) = r ∧ ∃ (z1 : Nat → Nat → Int32) (zn1 : Nat), RepX ca ad n g z1 zn1 tb u ∧ ∀ y, 302 ≤ y → u y = f y) := by
  refine x_open (cc := cX5_cut) (maxL := 5) (ret := (some .int)) (by decide) rfl (Nat.le_of_ble_eq_true rfl) ?_
  intro p e s m below meth c ls hx hb hml hown hts hr hlocks hnm hB hK hE hw hl
  have hown : s.vm.findClass RX5 = some m.cls := hown
  have hl : lv_has ls 5 [(0, .ref (ad 0)), (1, .int (nI i)), (2, .int y)] := hl
  obtain ⟨c_0, c_1, c_2, c_3, c_4, c_5, c_6, c_7, c_8, c_9, c_90, c_91, c_92, c_93, c_94, c_95, c_96, c_97, c_98, c_99, c_300, c_301, F_kf, F_oc, F_va, F_lw, F_M, hzn, hT⟩ := hR
  have hin_6 : ∀ w ∈ u_ws RX5 TX5 13, w ∈ wsX5_cut := by decide +kernel
  have hf_49 := hts (.fieldLink RX5 49 "FixityRows" "files" "[LFixityRows$KeptFile;") (by decide +kernel)
  have hin_1 : ∀ w ∈ u_ws RX0 TX0 8, w ∈ wsX5_cut := by decide +kernel
  have b_0 := c_0
  have b_1 := c_1
  have b_2 := c_2
  have b_3 := c_3
  have b_4 := c_4
  have b_5 := c_5
  have b_6 := c_6
  have b_7 := c_7
  have b_8 := c_8
  have b_9 := c_9
  have b_90 := c_90
  have b_91 := c_91
  have b_92 := c_92
  have b_93 := c_93
  have b_94 := c_94
  have b_95 := c_95
  have b_96 := c_96
  have b_97 := c_97
  have b_98 := c_98
  have b_99 := c_99
  have b_300 := c_300
  have b_301 := c_301
  refine lv_aload_n hx hb dX5_cut_0 rfl (lv_at hl 0 rfl) ?_
  refine lv_iload_n hx hb dX5_cut_1 rfl (lv_at hl 1 rfl) ?_
  have hRk : RepX ca ad n g z zn tb f := ⟨c_0,
        c_1,
        c_2,
        c_3,
        c_4,
        c_5,
        c_6,
        c_7,
        c_8,
        c_9,
        c_90,
        c_91,
        c_92,
        c_93,
        c_94,
        c_95,
        c_96,
        c_97,
        c_98,
        c_99,
        c_300,
        c_301,
        (fun i9 hi9 => by exact F_kf i9 hi9),
        (fun i9 hi9 => by exact F_oc i9 hi9),
        (fun i9 hi9 => by exact F_va i9 hi9),
        (fun i9 hi9 => by exact F_lw i9 hi9),
        (fun i9 hi9 => by exact F_M i9 hi9), hzn, hT⟩
  have hfr : ∀ y, 302 ≤ y → f y = f y := (fun _ _ => rfl)
  refine x_Vi (q := 0) (As := [.int (nI i)]) (rest := []) ⟨hx, hb, hml, hown, hts⟩ (k_X5_isFile_yes l D ca N ad B tR tK f dd hN n g z zn tb hRk i (by omega) (by omega)) (cwV 1 hts gX5_cut_X5_isFile rfl rfl rfl (by decide +kernel) ⟨Nat.le_of_ble_eq_true rfl, Nat.le_of_ble_eq_true rfl⟩) hK hE hB hw (by omega) c_0 rfl rfl rfl rfl hl.1 (Nat.le_of_ble_eq_true rfl) ⟨Nat.zero_le _, Nat.zero_le _⟩ dX5_cut_2 (fun r_2 f_1 H locs hp hw => ?_)
  obtain ⟨er, hp⟩ := hp
  rw [← er]
  rw [← hp] at hw
  refine lv_if_ne (tgt := 10) hx hb dX5_cut_5 (by decide) (fun _ => ?_) (fun h => absurd h (by decide))
  refine lv_aload_n hx hb dX5_cut_10 rfl (lv_at hl 0 rfl) ?_
  refine x_get (ci := 6) (C := RX5) (T := TX5) (n := 13) (ref := RX5) hx hb hts hin_6 hown hK hw 0 (by omega) c_0 rfl 6 (by decide) hf_49 (fun _ h => h) rfl dX5_cut_11 ?_
  refine lv_iload_n hx hb dX5_cut_14 rfl (lv_at hl 1 rfl) ?_
  refine x_aald (j := i) (a := ad (10 + 4 * i)) hx hb hK hw 9 3 (by omega) c_9 rfl rfl (by omega) (by decide) rfl dX5_cut_15 ?_
  have c_10_4_i : f (10 + 4 * i) = .inr (1, [.ref (ad (11 + 4 * i)), .ref (ad (13 + 4 * i)), .int (g 7 i), .int (g 8 i), .int (g 9 i), .int (g 10 i), .int (g 11 i), .int (g 12 i)]) := (F_kf i (by omega))
  refine x_getN (ci := 1) (C := RX0) (T := TX0) (n := 8) (ref := RX0) hx hb hts hin_1 hown hK hw (10 + 4 * i) (by omega) c_10_4_i rfl 0 (by decide) (hE.1 (103, "octets", "LFixityRows$Octets;") (by decide)) (fun _ h => h) rfl dX5_cut_16 ?_
  refine lv_astore_n (lv' := [(3, .ref (ad (11 + 4 * i))), (0, .ref (ad 0)), (1, .int (nI i)), (2, .int y)]) hx hb dX5_cut_19 rfl hl (by decide) rfl (fun ls hl => ?_)
  refine lv_aload_n hx hb dX5_cut_20 rfl (lv_at hl 0 rfl) ?_
  have c_11_4_i : f (11 + 4 * i) = .inr (3, [.ref (ad (12 + 4 * i)), .int (nI (n (10 + i)))]) := (F_oc i (by omega))
  refine x_Vi (q := 11 + 4 * i) (As := []) (rest := []) ⟨hx, hb, hml, hown, hts⟩ (k_X2_count l D ca N ad B tR tK f dd (11 + 4 * i) (12 + 4 * i) (n (10 + i)) (by omega) c_11_4_i  ) (cwV 0 hts gX5_cut_X2_count rfl rfl rfl (by decide +kernel) ⟨Nat.le_of_ble_eq_true rfl, Nat.le_of_ble_eq_true rfl⟩) hK hE hB hw (by omega) c_11_4_i rfl rfl rfl rfl hl.1 (Nat.le_of_ble_eq_true rfl) ⟨Nat.zero_le _, Nat.zero_le _⟩ dX5_cut_21 (fun r_4 f_3 H locs hp hw => ?_)
  obtain ⟨er, eu⟩ := hp
  rw [← er]
  rw [← eu] at hw
  refine lv_istore (lv' := [(4, .int (nI (n (10 + i)))), (3, .ref (ad (11 + 4 * i))), (0, .ref (ad 0)), (1, .int (nI i)), (2, .int y)]) hx hb dX5_cut_24 hl (by decide) rfl (fun ls hl => ?_)
  refine lv_iload_n hx hb dX5_cut_26 rfl (lv_at hl 4 rfl) ?_
  refine lv_if_lt (tgt := 36) hx hb dX5_cut_27 (by decide) (fun hc_27 => ?_) (fun hc_27 => ?_)
  · refine lv_bipush (v := (-2)) hx hb dX5_cut_36 (by decide) ?_
    have hRz : RepX ca ad n g z zn tb f := ⟨c_0,
          c_1,
          c_2,
          c_3,
          c_4,
          c_5,
          c_6,
          c_7,
          c_8,
          c_9,
          c_90,
          c_91,
          c_92,
          c_93,
          c_94,
          c_95,
          c_96,
          c_97,
          c_98,
          c_99,
          c_300,
          c_301,
          (fun i9 hi9 => by exact F_kf i9 hi9),
          (fun i9 hi9 => by exact F_oc i9 hi9),
          (fun i9 hi9 => by exact F_va i9 hi9),
          (fun i9 hi9 => by exact F_lw i9 hi9),
          (fun i9 hi9 => by exact F_M i9 hi9), hzn, hT⟩
    exact x_iret hx hb hr hlocks hw ⟨rfl, z, zn, hRz, (fun _ _ => rfl)⟩ dX5_cut_38
  · refine lv_iload_n hx hb dX5_cut_30 rfl (lv_at hl 4 rfl) ?_
    refine lv_iload hx hb dX5_cut_31 (lv_at hl 0 rfl) ?_
    refine lv_icmp_le (tgt := 39) hx hb dX5_cut_33 (by decide) (fun hc_33 => ?_) (fun hc_33 => ?_)
    · exact absurd ho (fun z => z.elim hc_27 (fun q => absurd hc_33 (Int32.not_le.mpr q)))
    · refine lv_bipush (v := (-2)) hx hb dX5_cut_36 (by decide) ?_
      have hRz : RepX ca ad n g z zn tb f := ⟨c_0,
            c_1,
            c_2,
            c_3,
            c_4,
            c_5,
            c_6,
            c_7,
            c_8,
            c_9,
            c_90,
            c_91,
            c_92,
            c_93,
            c_94,
            c_95,
            c_96,
            c_97,
            c_98,
            c_99,
            c_300,
            c_301,
            (fun i9 hi9 => by exact F_kf i9 hi9),
            (fun i9 hi9 => by exact F_oc i9 hi9),
            (fun i9 hi9 => by exact F_va i9 hi9),
            (fun i9 hi9 => by exact F_lw i9 hi9),
            (fun i9 hi9 => by exact F_M i9 hi9), hzn, hT⟩
      exact x_iret hx hb hr hlocks hw ⟨rfl, z, zn, hRz, (fun _ _ => rfl)⟩ dX5_cut_38

set_option maxHeartbeats 4000000 in
set_option maxRecDepth 100000 in
theorem k_X5_cut_in (l : Launch) (D : va_G) (ca : Nat → ClassId) (N : Nat) (ad : Nat → Nat) (B tR tK : Nat) (f : Nat → va_E) (dd : xD N ad B) (hN : 302 ≤ N) (n : Nat → Nat) (g : Nat → Nat → Int32) (z : Nat → Nat → Int32) (zn : Nat) (tb : Nat → Int32) (hR : RepX ca ad n g z zn tb f) (i : Nat) (j : Nat) (h2 : n 2 ≤ 20) (hsz : ∀ i, i < 20 → n (10 + i) ≤ 200) (hi : i < n 2) (hj : j < n (10 + i)) : xMi l yX5_cut wsX5_cut rmX5_cut [.ref (ad 0), .int (nI i), .int (nI j)] D ca N ad B tR tK f (fun r u => nI (n (10 + i) - j) = r ∧ ∃ (z1 : Nat → Nat → Int32) (zn1 : Nat), RepX ca ad (va_up n (10 + i) j) g z1 zn1 tb u ∧ ∀ y, 302 ≤ y → u y = f y) := by
  refine x_open (cc := cX5_cut) (maxL := 5) (ret := (some .int)) (by decide) rfl (Nat.le_of_ble_eq_true rfl) ?_
  intro p e s m below meth c ls hx hb hml hown hts hr hlocks hnm hB hK hE hw hl
  have hown : s.vm.findClass RX5 = some m.cls := hown
  have hl : lv_has ls 5 [(0, .ref (ad 0)), (1, .int (nI i)), (2, .int (nI j))] := hl
  obtain ⟨c_0, c_1, c_2, c_3, c_4, c_5, c_6, c_7, c_8, c_9, c_90, c_91, c_92, c_93, c_94, c_95, c_96, c_97, c_98, c_99, c_300, c_301, F_kf, F_oc, F_va, F_lw, F_M, hzn, hT⟩ := hR
  have hin_6 : ∀ w ∈ u_ws RX5 TX5 13, w ∈ wsX5_cut := by decide +kernel
  have hf_49 := hts (.fieldLink RX5 49 "FixityRows" "files" "[LFixityRows$KeptFile;") (by decide +kernel)
  have hin_1 : ∀ w ∈ u_ws RX0 TX0 8, w ∈ wsX5_cut := by decide +kernel
  have b_0 := c_0
  have b_1 := c_1
  have b_2 := c_2
  have b_3 := c_3
  have b_4 := c_4
  have b_5 := c_5
  have b_6 := c_6
  have b_7 := c_7
  have b_8 := c_8
  have b_9 := c_9
  have b_90 := c_90
  have b_91 := c_91
  have b_92 := c_92
  have b_93 := c_93
  have b_94 := c_94
  have b_95 := c_95
  have b_96 := c_96
  have b_97 := c_97
  have b_98 := c_98
  have b_99 := c_99
  have b_300 := c_300
  have b_301 := c_301
  refine lv_aload_n hx hb dX5_cut_0 rfl (lv_at hl 0 rfl) ?_
  refine lv_iload_n hx hb dX5_cut_1 rfl (lv_at hl 1 rfl) ?_
  have hRk : RepX ca ad n g z zn tb f := ⟨c_0,
        c_1,
        c_2,
        c_3,
        c_4,
        c_5,
        c_6,
        c_7,
        c_8,
        c_9,
        c_90,
        c_91,
        c_92,
        c_93,
        c_94,
        c_95,
        c_96,
        c_97,
        c_98,
        c_99,
        c_300,
        c_301,
        (fun i9 hi9 => by exact F_kf i9 hi9),
        (fun i9 hi9 => by exact F_oc i9 hi9),
        (fun i9 hi9 => by exact F_va i9 hi9),
        (fun i9 hi9 => by exact F_lw i9 hi9),
        (fun i9 hi9 => by exact F_M i9 hi9), hzn, hT⟩
  have hfr : ∀ y, 302 ≤ y → f y = f y := (fun _ _ => rfl)
  refine x_Vi (q := 0) (As := [.int (nI i)]) (rest := []) ⟨hx, hb, hml, hown, hts⟩ (k_X5_isFile_yes l D ca N ad B tR tK f dd hN n g z zn tb hRk i (by omega) (by omega)) (cwV 1 hts gX5_cut_X5_isFile rfl rfl rfl (by decide +kernel) ⟨Nat.le_of_ble_eq_true rfl, Nat.le_of_ble_eq_true rfl⟩) hK hE hB hw (by omega) c_0 rfl rfl rfl rfl hl.1 (Nat.le_of_ble_eq_true rfl) ⟨Nat.zero_le _, Nat.zero_le _⟩ dX5_cut_2 (fun r_2 f_1 H locs hp hw => ?_)
  obtain ⟨er, hp⟩ := hp
  rw [← er]
  rw [← hp] at hw
  refine lv_if_ne (tgt := 10) hx hb dX5_cut_5 (by decide) (fun _ => ?_) (fun h => absurd h (by decide))
  have hs9 := hsz i (by omega)
  refine lv_aload_n hx hb dX5_cut_10 rfl (lv_at hl 0 rfl) ?_
  refine x_get (ci := 6) (C := RX5) (T := TX5) (n := 13) (ref := RX5) hx hb hts hin_6 hown hK hw 0 (by omega) c_0 rfl 6 (by decide) hf_49 (fun _ h => h) rfl dX5_cut_11 ?_
  refine lv_iload_n hx hb dX5_cut_14 rfl (lv_at hl 1 rfl) ?_
  refine x_aald (j := i) (a := ad (10 + 4 * i)) hx hb hK hw 9 3 (by omega) c_9 rfl rfl (by omega) (by decide) rfl dX5_cut_15 ?_
  have c_10_4_i : f (10 + 4 * i) = .inr (1, [.ref (ad (11 + 4 * i)), .ref (ad (13 + 4 * i)), .int (g 7 i), .int (g 8 i), .int (g 9 i), .int (g 10 i), .int (g 11 i), .int (g 12 i)]) := (F_kf i (by omega))
  refine x_getN (ci := 1) (C := RX0) (T := TX0) (n := 8) (ref := RX0) hx hb hts hin_1 hown hK hw (10 + 4 * i) (by omega) c_10_4_i rfl 0 (by decide) (hE.1 (103, "octets", "LFixityRows$Octets;") (by decide)) (fun _ h => h) rfl dX5_cut_16 ?_
  refine lv_astore_n (lv' := [(3, .ref (ad (11 + 4 * i))), (0, .ref (ad 0)), (1, .int (nI i)), (2, .int (nI j))]) hx hb dX5_cut_19 rfl hl (by decide) rfl (fun ls hl => ?_)
  refine lv_aload_n hx hb dX5_cut_20 rfl (lv_at hl 0 rfl) ?_
  have c_11_4_i : f (11 + 4 * i) = .inr (3, [.ref (ad (12 + 4 * i)), .int (nI (n (10 + i)))]) := (F_oc i (by omega))
  refine x_Vi (q := 11 + 4 * i) (As := []) (rest := []) ⟨hx, hb, hml, hown, hts⟩ (k_X2_count l D ca N ad B tR tK f dd (11 + 4 * i) (12 + 4 * i) (n (10 + i)) (by omega) c_11_4_i  ) (cwV 0 hts gX5_cut_X2_count rfl rfl rfl (by decide +kernel) ⟨Nat.le_of_ble_eq_true rfl, Nat.le_of_ble_eq_true rfl⟩) hK hE hB hw (by omega) c_11_4_i rfl rfl rfl rfl hl.1 (Nat.le_of_ble_eq_true rfl) ⟨Nat.zero_le _, Nat.zero_le _⟩ dX5_cut_21 (fun r_4 f_3 H locs hp hw => ?_)
  obtain ⟨er, eu⟩ := hp
  rw [← er]
  rw [← eu] at hw
  refine lv_istore (lv' := [(4, .int (nI (n (10 + i)))), (3, .ref (ad (11 + 4 * i))), (0, .ref (ad 0)), (1, .int (nI i)), (2, .int (nI j))]) hx hb dX5_cut_24 hl (by decide) rfl (fun ls hl => ?_)
  refine lv_iload_n hx hb dX5_cut_26 rfl (lv_at hl 4 rfl) ?_
  refine n_iflt (tgt := 36) hx hb dX5_cut_27 (by decide) (by omega) ?_
  refine lv_iload_n hx hb dX5_cut_30 rfl (lv_at hl 4 rfl) ?_
  refine lv_iload hx hb dX5_cut_31 (lv_at hl 0 rfl) ?_
  refine n_icle (tgt := 39) hx hb dX5_cut_33 (by decide) (by omega) (by omega) (fun hc_33 => ?_) (fun hc_33 => ?_)
  · refine lv_aload_n hx hb dX5_cut_39 rfl (lv_at hl 1 rfl) ?_
    refine lv_iload_n hx hb dX5_cut_40 rfl (lv_at hl 4 rfl) ?_
    refine x_Vv (q := 11 + 4 * i) (As := [.int (nI j)]) (rest := []) ⟨hx, hb, hml, hown, hts⟩ (k_X2_shorten_in l D ca N ad B tR tK f dd (11 + 4 * i) (12 + 4 * i) (n (10 + i)) j (by omega) c_11_4_i  (by omega) (by omega)) (cwV 1 hts gX5_cut_X2_shorten rfl rfl rfl (by decide +kernel) ⟨Nat.le_of_ble_eq_true rfl, Nat.le_of_ble_eq_true rfl⟩) hK hE hB hw (by omega) c_11_4_i rfl rfl rfl rfl hl.1 (Nat.le_of_ble_eq_true rfl) ⟨Nat.zero_le _, Nat.zero_le _⟩ dX5_cut_41 (fun f_5 H locs hp hw => ?_)
    have eu := hp
    have ef_5 : f_5 = va_up f (11 + 4 * i) (.inr (3, [.ref (ad (12 + 4 * i)), .int (nI j)])) := eu
    have c_11_4_i : f_5 (11 + 4 * i) = .inr (3, [.ref (ad (12 + 4 * i)), .int (nI j)]) := by rw [ef_5, va_up_self]
    refine lv_iload hx hb dX5_cut_44 (lv_at hl 0 rfl) ?_
    refine lv_iload_n hx hb dX5_cut_46 rfl (lv_at hl 4 rfl) ?_
    refine n_isub hx hb dX5_cut_47 (by omega) ?_
    have c_0 : f_5 0 = .inr (6, [.int (nI (n 0)), .ref (ad 1), .ref (ad 4), .ref (ad 6), .ref (ad 8), .int (nI (n 1)), .ref (ad 9), .int (nI (n 2)), .ref (ad 90), .ref (ad 300), .ref (ad 301), .int (nI (n 3)), .int (g 13 0)]) := by rw [ef_5, va_up_ne _ _ (by omega)]; exact c_0
    have c_1 : f_5 1 = .inr (2, [.ref (ad 2), .ref (ad 3)]) := by rw [ef_5, va_up_ne _ _ (by omega)]; exact c_1
    have c_2 : f_5 2 = ai (ca 0) 8 (z 0) := by rw [ef_5, va_up_ne _ _ (by omega)]; exact c_2
    have c_3 : f_5 3 = ai (ca 0) 64 (z 1) := by rw [ef_5, va_up_ne _ _ (by omega)]; exact c_3
    have c_4 : f_5 4 = .inr (5, [.ref (ad 5)]) := by rw [ef_5, va_up_ne _ _ (by omega)]; exact c_4
    have c_5 : f_5 5 = ai (ca 0) 256 tb := by rw [ef_5, va_up_ne _ _ (by omega)]; exact c_5
    have c_6 : f_5 6 = .inr (3, [.ref (ad 7), .int (nI (n 4))]) := by rw [ef_5, va_up_ne _ _ (by omega)]; exact c_6
    have c_7 : f_5 7 = ai (ca 0) 200 (g 0) := by rw [ef_5, va_up_ne _ _ (by omega)]; exact c_7
    have c_8 : f_5 8 = ai (ca 0) 8 (g 1) := by rw [ef_5, va_up_ne _ _ (by omega)]; exact c_8
    have c_9 : f_5 9 = aq (ca 3) 20 (fun i => some (ad (10 + 4 * i))) := by rw [ef_5, va_up_ne _ _ (by omega)]; exact c_9
    have c_90 : f_5 90 = .inr (4, [.ref (ad 91), .ref (ad 94), .ref (ad 96), .ref (ad 97), .ref (ad 98), .ref (ad 99), .int (nI (n 5))]) := by rw [ef_5, va_up_ne _ _ (by omega)]; exact c_90
    have c_91 : f_5 91 = .inr (2, [.ref (ad 92), .ref (ad 93)]) := by rw [ef_5, va_up_ne _ _ (by omega)]; exact c_91
    have c_92 : f_5 92 = ai (ca 0) 8 (z 2) := by rw [ef_5, va_up_ne _ _ (by omega)]; exact c_92
    have c_93 : f_5 93 = ai (ca 0) 64 (z 3) := by rw [ef_5, va_up_ne _ _ (by omega)]; exact c_93
    have c_94 : f_5 94 = .inr (3, [.ref (ad 95), .int (nI zn)]) := by rw [ef_5, va_up_ne _ _ (by omega)]; exact c_94
    have c_95 : f_5 95 = ai (ca 0) 200 (z 4) := by rw [ef_5, va_up_ne _ _ (by omega)]; exact c_95
    have c_96 : f_5 96 = ai (ca 0) 200 (g 4) := by rw [ef_5, va_up_ne _ _ (by omega)]; exact c_96
    have c_97 : f_5 97 = ai (ca 0) 200 (g 5) := by rw [ef_5, va_up_ne _ _ (by omega)]; exact c_97
    have c_98 : f_5 98 = ai (ca 0) 200 (g 6) := by rw [ef_5, va_up_ne _ _ (by omega)]; exact c_98
    have c_99 : f_5 99 = aq (ca 4) 200 (fun i => some (ad (100 + i))) := by rw [ef_5, va_up_ne _ _ (by omega)]; exact c_99
    have c_300 : f_5 300 = ai (ca 0) 20 (g 2) := by rw [ef_5, va_up_ne _ _ (by omega)]; exact c_300
    have c_301 : f_5 301 = ai (ca 2) 20 (g 3) := by rw [ef_5, va_up_ne _ _ (by omega)]; exact c_301
    have qn_0 : (va_up n (10 + i) j) 0 = n 0 := by rw [va_up_ne _ _ (by omega)]
    have qn_1 : (va_up n (10 + i) j) 1 = n 1 := by rw [va_up_ne _ _ (by omega)]
    have qn_2 : (va_up n (10 + i) j) 2 = n 2 := by rw [va_up_ne _ _ (by omega)]
    have qn_3 : (va_up n (10 + i) j) 3 = n 3 := by rw [va_up_ne _ _ (by omega)]
    have qn_4 : (va_up n (10 + i) j) 4 = n 4 := by rw [va_up_ne _ _ (by omega)]
    have qn_5 : (va_up n (10 + i) j) 5 = n 5 := by rw [va_up_ne _ _ (by omega)]
    have hRz : RepX ca ad (va_up n (10 + i) j) g z zn tb f_5 := ⟨(by rw [qn_0, qn_1, qn_2, qn_3]; exact c_0),
          c_1,
          c_2,
          c_3,
          c_4,
          c_5,
          (by rw [qn_4]; exact c_6),
          c_7,
          c_8,
          c_9,
          (by rw [qn_5]; exact c_90),
          c_91,
          c_92,
          c_93,
          c_94,
          c_95,
          c_96,
          c_97,
          c_98,
          c_99,
          c_300,
          c_301,
          (fun i9 hi9 => by rw [ef_5, va_up_ne _ _ (by omega)]; exact F_kf i9 hi9),
          (fun i9 hi9 => by
          by_cases ei : i9 = i
          · rw [ei, va_up_self]; exact c_11_4_i
          · rw [va_up_ne _ _ (by omega)]; rw [ef_5, va_up_ne _ _ (by omega)]; exact F_oc i9 hi9),
          (fun i9 hi9 => by rw [ef_5, va_up_ne _ _ (by omega)]; exact F_va i9 hi9),
          (fun i9 hi9 => by rw [ef_5, va_up_ne _ _ (by omega)]; exact F_lw i9 hi9),
          (fun i9 hi9 => by rw [ef_5, va_up_ne _ _ (by omega)]; exact F_M i9 hi9), hzn, hT⟩
    exact x_iret hx hb hr hlocks hw ⟨rfl, z, zn, hRz, (fun y hy => by rw [ef_5, va_up_ne _ _ (by omega)])⟩ dX5_cut_48
  · omega

set_option maxHeartbeats 4000000 in
set_option maxRecDepth 100000 in
theorem k_X5_cut_all (l : Launch) (D : va_G) (ca : Nat → ClassId) (N : Nat) (ad : Nat → Nat) (B tR tK : Nat) (f : Nat → va_E) (dd : xD N ad B) (hN : 302 ≤ N) (n : Nat → Nat) (g : Nat → Nat → Int32) (z : Nat → Nat → Int32) (zn : Nat) (tb : Nat → Int32) (hR : RepX ca ad n g z zn tb f) (i : Nat) (j : Nat) (h2 : n 2 ≤ 20) (hsz : ∀ i, i < 20 → n (10 + i) ≤ 200) (hi : i < n 2) (hj : j = n (10 + i)) : xMi l yX5_cut wsX5_cut rmX5_cut [.ref (ad 0), .int (nI i), .int (nI j)] D ca N ad B tR tK f (fun r u => nI 0 = r ∧ ∃ (z1 : Nat → Nat → Int32) (zn1 : Nat), RepX ca ad n g z1 zn1 tb u ∧ ∀ y, 302 ≤ y → u y = f y) := by
  refine x_open (cc := cX5_cut) (maxL := 5) (ret := (some .int)) (by decide) rfl (Nat.le_of_ble_eq_true rfl) ?_
  intro p e s m below meth c ls hx hb hml hown hts hr hlocks hnm hB hK hE hw hl
  have hown : s.vm.findClass RX5 = some m.cls := hown
  have hl : lv_has ls 5 [(0, .ref (ad 0)), (1, .int (nI i)), (2, .int (nI j))] := hl
  obtain ⟨c_0, c_1, c_2, c_3, c_4, c_5, c_6, c_7, c_8, c_9, c_90, c_91, c_92, c_93, c_94, c_95, c_96, c_97, c_98, c_99, c_300, c_301, F_kf, F_oc, F_va, F_lw, F_M, hzn, hT⟩ := hR
  have hin_6 : ∀ w ∈ u_ws RX5 TX5 13, w ∈ wsX5_cut := by decide +kernel
  have hf_49 := hts (.fieldLink RX5 49 "FixityRows" "files" "[LFixityRows$KeptFile;") (by decide +kernel)
  have hin_1 : ∀ w ∈ u_ws RX0 TX0 8, w ∈ wsX5_cut := by decide +kernel
  have b_0 := c_0
  have b_1 := c_1
  have b_2 := c_2
  have b_3 := c_3
  have b_4 := c_4
  have b_5 := c_5
  have b_6 := c_6
  have b_7 := c_7
  have b_8 := c_8
  have b_9 := c_9
  have b_90 := c_90
  have b_91 := c_91
  have b_92 := c_92
  have b_93 := c_93
  have b_94 := c_94
  have b_95 := c_95
  have b_96 := c_96
  have b_97 := c_97
  have b_98 := c_98
  have b_99 := c_99
  have b_300 := c_300
  have b_301 := c_301
  refine lv_aload_n hx hb dX5_cut_0 rfl (lv_at hl 0 rfl) ?_
  refine lv_iload_n hx hb dX5_cut_1 rfl (lv_at hl 1 rfl) ?_
  have hRk : RepX ca ad n g z zn tb f := ⟨c_0,
        c_1,
        c_2,
        c_3,
        c_4,
        c_5,
        c_6,
        c_7,
        c_8,
        c_9,
        c_90,
        c_91,
        c_92,
        c_93,
        c_94,
        c_95,
        c_96,
        c_97,
        c_98,
        c_99,
        c_300,
        c_301,
        (fun i9 hi9 => by exact F_kf i9 hi9),
        (fun i9 hi9 => by exact F_oc i9 hi9),
        (fun i9 hi9 => by exact F_va i9 hi9),
        (fun i9 hi9 => by exact F_lw i9 hi9),
        (fun i9 hi9 => by exact F_M i9 hi9), hzn, hT⟩
  have hfr : ∀ y, 302 ≤ y → f y = f y := (fun _ _ => rfl)
  refine x_Vi (q := 0) (As := [.int (nI i)]) (rest := []) ⟨hx, hb, hml, hown, hts⟩ (k_X5_isFile_yes l D ca N ad B tR tK f dd hN n g z zn tb hRk i (by omega) (by omega)) (cwV 1 hts gX5_cut_X5_isFile rfl rfl rfl (by decide +kernel) ⟨Nat.le_of_ble_eq_true rfl, Nat.le_of_ble_eq_true rfl⟩) hK hE hB hw (by omega) c_0 rfl rfl rfl rfl hl.1 (Nat.le_of_ble_eq_true rfl) ⟨Nat.zero_le _, Nat.zero_le _⟩ dX5_cut_2 (fun r_2 f_1 H locs hp hw => ?_)
  obtain ⟨er, hp⟩ := hp
  rw [← er]
  rw [← hp] at hw
  refine lv_if_ne (tgt := 10) hx hb dX5_cut_5 (by decide) (fun _ => ?_) (fun h => absurd h (by decide))
  have hs9 := hsz i (by omega)
  refine lv_aload_n hx hb dX5_cut_10 rfl (lv_at hl 0 rfl) ?_
  refine x_get (ci := 6) (C := RX5) (T := TX5) (n := 13) (ref := RX5) hx hb hts hin_6 hown hK hw 0 (by omega) c_0 rfl 6 (by decide) hf_49 (fun _ h => h) rfl dX5_cut_11 ?_
  refine lv_iload_n hx hb dX5_cut_14 rfl (lv_at hl 1 rfl) ?_
  refine x_aald (j := i) (a := ad (10 + 4 * i)) hx hb hK hw 9 3 (by omega) c_9 rfl rfl (by omega) (by decide) rfl dX5_cut_15 ?_
  have c_10_4_i : f (10 + 4 * i) = .inr (1, [.ref (ad (11 + 4 * i)), .ref (ad (13 + 4 * i)), .int (g 7 i), .int (g 8 i), .int (g 9 i), .int (g 10 i), .int (g 11 i), .int (g 12 i)]) := (F_kf i (by omega))
  refine x_getN (ci := 1) (C := RX0) (T := TX0) (n := 8) (ref := RX0) hx hb hts hin_1 hown hK hw (10 + 4 * i) (by omega) c_10_4_i rfl 0 (by decide) (hE.1 (103, "octets", "LFixityRows$Octets;") (by decide)) (fun _ h => h) rfl dX5_cut_16 ?_
  refine lv_astore_n (lv' := [(3, .ref (ad (11 + 4 * i))), (0, .ref (ad 0)), (1, .int (nI i)), (2, .int (nI j))]) hx hb dX5_cut_19 rfl hl (by decide) rfl (fun ls hl => ?_)
  refine lv_aload_n hx hb dX5_cut_20 rfl (lv_at hl 0 rfl) ?_
  have c_11_4_i : f (11 + 4 * i) = .inr (3, [.ref (ad (12 + 4 * i)), .int (nI (n (10 + i)))]) := (F_oc i (by omega))
  refine x_Vi (q := 11 + 4 * i) (As := []) (rest := []) ⟨hx, hb, hml, hown, hts⟩ (k_X2_count l D ca N ad B tR tK f dd (11 + 4 * i) (12 + 4 * i) (n (10 + i)) (by omega) c_11_4_i  ) (cwV 0 hts gX5_cut_X2_count rfl rfl rfl (by decide +kernel) ⟨Nat.le_of_ble_eq_true rfl, Nat.le_of_ble_eq_true rfl⟩) hK hE hB hw (by omega) c_11_4_i rfl rfl rfl rfl hl.1 (Nat.le_of_ble_eq_true rfl) ⟨Nat.zero_le _, Nat.zero_le _⟩ dX5_cut_21 (fun r_4 f_3 H locs hp hw => ?_)
  obtain ⟨er, eu⟩ := hp
  rw [← er]
  rw [← eu] at hw
  refine lv_istore (lv' := [(4, .int (nI (n (10 + i)))), (3, .ref (ad (11 + 4 * i))), (0, .ref (ad 0)), (1, .int (nI i)), (2, .int (nI j))]) hx hb dX5_cut_24 hl (by decide) rfl (fun ls hl => ?_)
  refine lv_iload_n hx hb dX5_cut_26 rfl (lv_at hl 4 rfl) ?_
  refine n_iflt (tgt := 36) hx hb dX5_cut_27 (by decide) (by omega) ?_
  refine lv_iload_n hx hb dX5_cut_30 rfl (lv_at hl 4 rfl) ?_
  refine lv_iload hx hb dX5_cut_31 (lv_at hl 0 rfl) ?_
  refine n_icle (tgt := 39) hx hb dX5_cut_33 (by decide) (by omega) (by omega) (fun hc_33 => ?_) (fun hc_33 => ?_)
  · refine lv_aload_n hx hb dX5_cut_39 rfl (lv_at hl 1 rfl) ?_
    refine lv_iload_n hx hb dX5_cut_40 rfl (lv_at hl 4 rfl) ?_
    refine x_Vv (q := 11 + 4 * i) (As := [.int (nI j)]) (rest := []) ⟨hx, hb, hml, hown, hts⟩ (k_X2_shorten_same l D ca N ad B tR tK f dd (11 + 4 * i) (12 + 4 * i) (n (10 + i)) j (by omega) c_11_4_i  (by omega) (by omega)) (cwV 1 hts gX5_cut_X2_shorten rfl rfl rfl (by decide +kernel) ⟨Nat.le_of_ble_eq_true rfl, Nat.le_of_ble_eq_true rfl⟩) hK hE hB hw (by omega) c_11_4_i rfl rfl rfl rfl hl.1 (Nat.le_of_ble_eq_true rfl) ⟨Nat.zero_le _, Nat.zero_le _⟩ dX5_cut_41 (fun f_5 H locs hp hw => ?_)
    have eu := hp
    rw [← eu] at hw
    refine lv_iload hx hb dX5_cut_44 (lv_at hl 0 rfl) ?_
    refine lv_iload_n hx hb dX5_cut_46 rfl (lv_at hl 4 rfl) ?_
    refine n_isub hx hb dX5_cut_47 (by omega) ?_
    have hRz : RepX ca ad n g z zn tb f := ⟨c_0,
          c_1,
          c_2,
          c_3,
          c_4,
          c_5,
          c_6,
          c_7,
          c_8,
          c_9,
          c_90,
          c_91,
          c_92,
          c_93,
          c_94,
          c_95,
          c_96,
          c_97,
          c_98,
          c_99,
          c_300,
          c_301,
          (fun i9 hi9 => by exact F_kf i9 hi9),
          (fun i9 hi9 => by exact F_oc i9 hi9),
          (fun i9 hi9 => by exact F_va i9 hi9),
          (fun i9 hi9 => by exact F_lw i9 hi9),
          (fun i9 hi9 => by exact F_M i9 hi9), hzn, hT⟩
    exact x_iret hx hb hr hlocks hw ⟨(by rw [hj, Nat.sub_self]), z, zn, hRz, (fun _ _ => rfl)⟩ dX5_cut_48
  · omega
end
section
/-! ===== words for the class's own methods ===== -/
def grow (g : Nat → Nat → Int32) (M : Nat → Nat → Int32) : Nat → Nat → Int32 := fun a => if 1000 ≤ a ∧ a < 1200 then M (a - 1000) else g a
theorem grow_ne (g M : Nat → Nat → Int32) {a : Nat} (h : a < 1000 ∨ 1200 ≤ a) : grow g M a = g a := if_neg (by omega)
theorem grow_at (g M : Nat → Nat → Int32) {i : Nat} (h : i < 200) : grow g M (1000 + i) = M i := by
  unfold grow
  rw [if_pos (by omega), Nat.add_sub_cancel_left]
/-- file i's bytes have all DIGESTS of file j -/
def fitsX (n : Nat → Nat) (g : Nat → Nat → Int32) (i j : Nat) : Prop := (¬ g 8 j &&& nI 2 = 0 → crc (n (10 + i)) (g (100 + i)) = g 7 j) ∧ (¬ g 8 j &&& nI 1 = 0 → ∀ k, k < 8 → g (200 + j) k = sha (n (10 + i)) (g (100 + i)) k)

abbrev rmX5_schedule : Room := { frames := 1, cells := 0, slots := 0, locals := 22 }

set_option maxHeartbeats 4000000 in
set_option maxRecDepth 100000 in
theorem k_X5_schedule_nofile (l : Launch) (D : va_G) (ca : Nat → ClassId) (N : Nat) (ad : Nat → Nat) (B tR tK : Nat) (f : Nat → va_E) (dd : xD N ad B) (hN : 302 ≤ N) (n : Nat → Nat) (g : Nat → Nat → Int32) (z : Nat → Nat → Int32) (zn : Nat) (tb : Nat → Int32) (hR : RepX ca ad n g z zn tb f) (x : Int32) (y : Int32) (w : Int32) (ho : x < 0 ∨ nI (n 2) ≤ x) : xMi l yX5_schedule wsX5_schedule rmX5_schedule [.ref (ad 0), .int x, .int y, .int w] D ca N ad B tR tK f (fun r u => (-1) = r ∧ ∃ (z1 : Nat → Nat → Int32) (zn1 : Nat), RepX ca ad n g z1 zn1 tb u ∧ ∀ y, 302 ≤ y → u y = f y) := by
  refine x_open (cc := cX5_schedule) (maxL := 4) (ret := (some .int)) (by decide) rfl (Nat.le_of_ble_eq_true rfl) ?_
  intro p e s m below meth c ls hx hb hml hown hts hr hlocks hnm hB hK hE hw hl
  have hown : s.vm.findClass RX5 = some m.cls := hown
  have hl : lv_has ls 4 [(0, .ref (ad 0)), (1, .int x), (2, .int y), (3, .int w)] := hl
  obtain ⟨c_0, c_1, c_2, c_3, c_4, c_5, c_6, c_7, c_8, c_9, c_90, c_91, c_92, c_93, c_94, c_95, c_96, c_97, c_98, c_99, c_300, c_301, F_kf, F_oc, F_va, F_lw, F_M, hzn, hT⟩ := hR
  have b_0 := c_0
  have b_1 := c_1
  have b_2 := c_2
  have b_3 := c_3
  have b_4 := c_4
  have b_5 := c_5
  have b_6 := c_6
  have b_7 := c_7
  have b_8 := c_8
  have b_9 := c_9
  have b_90 := c_90
  have b_91 := c_91
  have b_92 := c_92
  have b_93 := c_93
  have b_94 := c_94
  have b_95 := c_95
  have b_96 := c_96
  have b_97 := c_97
  have b_98 := c_98
  have b_99 := c_99
  have b_300 := c_300
  have b_301 := c_301
  refine lv_aload_n hx hb dX5_schedule_0 rfl (lv_at hl 0 rfl) ?_
  refine lv_iload_n hx hb dX5_schedule_1 rfl (lv_at hl 1 rfl) ?_
  have hRk : RepX ca ad n g z zn tb f := ⟨c_0,
        c_1,
        c_2,
        c_3,
        c_4,
        c_5,
        c_6,
        c_7,
        c_8,
        c_9,
        c_90,
        c_91,
        c_92,
        c_93,
        c_94,
        c_95,
        c_96,
        c_97,
        c_98,
        c_99,
        c_300,
        c_301,
        (fun i9 hi9 => by exact F_kf i9 hi9),
        (fun i9 hi9 => by exact F_oc i9 hi9),
        (fun i9 hi9 => by exact F_va i9 hi9),
        (fun i9 hi9 => by exact F_lw i9 hi9),
        (fun i9 hi9 => by exact F_M i9 hi9), hzn, hT⟩
  have hfr : ∀ y, 302 ≤ y → f y = f y := (fun _ _ => rfl)
  refine x_Vi (q := 0) (As := [.int x]) (rest := []) ⟨hx, hb, hml, hown, hts⟩ (k_X5_isFile_no l D ca N ad B tR tK f dd hN n g z zn tb hRk x ho) (cwV 1 hts gX5_schedule_X5_isFile rfl rfl rfl (by decide +kernel) ⟨Nat.le_of_ble_eq_true rfl, Nat.le_of_ble_eq_true rfl⟩) hK hE hB hw (by omega) c_0 rfl rfl rfl rfl hl.1 (Nat.le_of_ble_eq_true rfl) ⟨Nat.zero_le _, Nat.zero_le _⟩ dX5_schedule_2 (fun r_2 f_1 H locs hp hw => ?_)
  obtain ⟨er, hp⟩ := hp
  rw [← er]
  rw [← hp] at hw
  refine lv_if_ne (tgt := 10) hx hb dX5_schedule_5 (by decide) (fun h => False.elim (h (by decide))) (fun _ => ?_)
  refine lv_iconst (v := (-1)) hx hb dX5_schedule_8 (by decide) ?_
  have hRz : RepX ca ad n g z zn tb f := ⟨c_0,
        c_1,
        c_2,
        c_3,
        c_4,
        c_5,
        c_6,
        c_7,
        c_8,
        c_9,
        c_90,
        c_91,
        c_92,
        c_93,
        c_94,
        c_95,
        c_96,
        c_97,
        c_98,
        c_99,
        c_300,
        c_301,
        (fun i9 hi9 => by exact F_kf i9 hi9),
        (fun i9 hi9 => by exact F_oc i9 hi9),
        (fun i9 hi9 => by exact F_va i9 hi9),
        (fun i9 hi9 => by exact F_lw i9 hi9),
        (fun i9 hi9 => by exact F_M i9 hi9), hzn, hT⟩
  exact x_iret hx hb hr hlocks hw ⟨rfl, z, zn, hRz, (fun _ _ => rfl)⟩ dX5_schedule_9

set_option maxHeartbeats 4000000 in
set_option maxRecDepth 100000 in
theorem k_X5_schedule_day (l : Launch) (D : va_G) (ca : Nat → ClassId) (N : Nat) (ad : Nat → Nat) (B tR tK : Nat) (f : Nat → va_E) (dd : xD N ad B) (hN : 302 ≤ N) (n : Nat → Nat) (g : Nat → Nat → Int32) (z : Nat → Nat → Int32) (zn : Nat) (tb : Nat → Int32) (hR : RepX ca ad n g z zn tb f) (i : Nat) (y : Int32) (w : Int32) (h2 : n 2 ≤ 20) (hi : i < n 2) (ho : y < 0 ∨ nI 1000000 < y) : xMi l yX5_schedule wsX5_schedule rmX5_schedule [.ref (ad 0), .int (nI i), .int y, .int w] D ca N ad B tR tK f (fun r u => (-2) = r ∧ ∃ (z1 : Nat → Nat → Int32) (zn1 : Nat), RepX ca ad n g z1 zn1 tb u ∧ ∀ y, 302 ≤ y → u y = f y) := by
  refine x_open (cc := cX5_schedule) (maxL := 4) (ret := (some .int)) (by decide) rfl (Nat.le_of_ble_eq_true rfl) ?_
  intro p e s m below meth c ls hx hb hml hown hts hr hlocks hnm hB hK hE hw hl
  have hown : s.vm.findClass RX5 = some m.cls := hown
  have hl : lv_has ls 4 [(0, .ref (ad 0)), (1, .int (nI i)), (2, .int y), (3, .int w)] := hl
  obtain ⟨c_0, c_1, c_2, c_3, c_4, c_5, c_6, c_7, c_8, c_9, c_90, c_91, c_92, c_93, c_94, c_95, c_96, c_97, c_98, c_99, c_300, c_301, F_kf, F_oc, F_va, F_lw, F_M, hzn, hT⟩ := hR
  have b_0 := c_0
  have b_1 := c_1
  have b_2 := c_2
  have b_3 := c_3
  have b_4 := c_4
  have b_5 := c_5
  have b_6 := c_6
  have b_7 := c_7
  have b_8 := c_8
  have b_9 := c_9
  have b_90 := c_90
  have b_91 := c_91
  have b_92 := c_92
  have b_93 := c_93
  have b_94 := c_94
  have b_95 := c_95
  have b_96 := c_96
  have b_97 := c_97
  have b_98 := c_98
  have b_99 := c_99
  have b_300 := c_300
  have b_301 := c_301
  refine lv_aload_n hx hb dX5_schedule_0 rfl (lv_at hl 0 rfl) ?_
  refine lv_iload_n hx hb dX5_schedule_1 rfl (lv_at hl 1 rfl) ?_
  have hRk : RepX ca ad n g z zn tb f := ⟨c_0,
        c_1,
        c_2,
        c_3,
        c_4,
        c_5,
        c_6,
        c_7,
        c_8,
        c_9,
        c_90,
        c_91,
        c_92,
        c_93,
        c_94,
        c_95,
        c_96,
        c_97,
        c_98,
        c_99,
        c_300,
        c_301,
        (fun i9 hi9 => by exact F_kf i9 hi9),
        (fun i9 hi9 => by exact F_oc i9 hi9),
        (fun i9 hi9 => by exact F_va i9 hi9),
        (fun i9 hi9 => by exact F_lw i9 hi9),
        (fun i9 hi9 => by exact F_M i9 hi9), hzn, hT⟩
  have hfr : ∀ y, 302 ≤ y → f y = f y := (fun _ _ => rfl)
  refine x_Vi (q := 0) (As := [.int (nI i)]) (rest := []) ⟨hx, hb, hml, hown, hts⟩ (k_X5_isFile_yes l D ca N ad B tR tK f dd hN n g z zn tb hRk i (by omega) (by omega)) (cwV 1 hts gX5_schedule_X5_isFile rfl rfl rfl (by decide +kernel) ⟨Nat.le_of_ble_eq_true rfl, Nat.le_of_ble_eq_true rfl⟩) hK hE hB hw (by omega) c_0 rfl rfl rfl rfl hl.1 (Nat.le_of_ble_eq_true rfl) ⟨Nat.zero_le _, Nat.zero_le _⟩ dX5_schedule_2 (fun r_2 f_1 H locs hp hw => ?_)
  obtain ⟨er, hp⟩ := hp
  rw [← er]
  rw [← hp] at hw
  refine lv_if_ne (tgt := 10) hx hb dX5_schedule_5 (by decide) (fun _ => ?_) (fun h => absurd h (by decide))
  refine lv_iload_n hx hb dX5_schedule_10 rfl (lv_at hl 2 rfl) ?_
  refine x_Si (As := [.int y]) (rest := []) ⟨hx, hb, hml, hown, hts⟩ (k_X5_isDay_no l D ca N ad B tR tK f dd y   ho) (va_cwS 1 hts gX5_schedule_X5_isDay rfl rfl rfl (by decide +kernel) ⟨Nat.le_of_ble_eq_true rfl, Nat.le_of_ble_eq_true rfl⟩) hK hE hB hw rfl rfl hl.1 (Nat.le_of_ble_eq_true rfl) ⟨Nat.zero_le _, Nat.zero_le _⟩ dX5_schedule_11 (fun r_4 f_3 H locs hp hw => ?_)
  obtain ⟨er, eu⟩ := hp
  rw [← er]
  rw [← eu] at hw
  refine lv_if_eq (tgt := 29) hx hb dX5_schedule_14 (by decide) (fun _ => ?_) (fun h => False.elim (h (by decide)))
  refine lv_bipush (v := (-2)) hx hb dX5_schedule_29 (by decide) ?_
  have hRz : RepX ca ad n g z zn tb f := ⟨c_0,
        c_1,
        c_2,
        c_3,
        c_4,
        c_5,
        c_6,
        c_7,
        c_8,
        c_9,
        c_90,
        c_91,
        c_92,
        c_93,
        c_94,
        c_95,
        c_96,
        c_97,
        c_98,
        c_99,
        c_300,
        c_301,
        (fun i9 hi9 => by exact F_kf i9 hi9),
        (fun i9 hi9 => by exact F_oc i9 hi9),
        (fun i9 hi9 => by exact F_va i9 hi9),
        (fun i9 hi9 => by exact F_lw i9 hi9),
        (fun i9 hi9 => by exact F_M i9 hi9), hzn, hT⟩
  exact x_iret hx hb hr hlocks hw ⟨rfl, z, zn, hRz, (fun _ _ => rfl)⟩ dX5_schedule_31

set_option maxHeartbeats 4000000 in
set_option maxRecDepth 100000 in
theorem k_X5_schedule_span (l : Launch) (D : va_G) (ca : Nat → ClassId) (N : Nat) (ad : Nat → Nat) (B tR tK : Nat) (f : Nat → va_E) (dd : xD N ad B) (hN : 302 ≤ N) (n : Nat → Nat) (g : Nat → Nat → Int32) (z : Nat → Nat → Int32) (zn : Nat) (tb : Nat → Int32) (hR : RepX ca ad n g z zn tb f) (i : Nat) (j : Nat) (w : Int32) (h2 : n 2 ≤ 20) (hi : i < n 2) (hj : j ≤ 1000000) (ho : w < nI 1 ∨ nI 1000 < w) : xMi l yX5_schedule wsX5_schedule rmX5_schedule [.ref (ad 0), .int (nI i), .int (nI j), .int w] D ca N ad B tR tK f (fun r u => (-2) = r ∧ ∃ (z1 : Nat → Nat → Int32) (zn1 : Nat), RepX ca ad n g z1 zn1 tb u ∧ ∀ y, 302 ≤ y → u y = f y) := by
  refine x_open (cc := cX5_schedule) (maxL := 4) (ret := (some .int)) (by decide) rfl (Nat.le_of_ble_eq_true rfl) ?_
  intro p e s m below meth c ls hx hb hml hown hts hr hlocks hnm hB hK hE hw hl
  have hown : s.vm.findClass RX5 = some m.cls := hown
  have hl : lv_has ls 4 [(0, .ref (ad 0)), (1, .int (nI i)), (2, .int (nI j)), (3, .int w)] := hl
  obtain ⟨c_0, c_1, c_2, c_3, c_4, c_5, c_6, c_7, c_8, c_9, c_90, c_91, c_92, c_93, c_94, c_95, c_96, c_97, c_98, c_99, c_300, c_301, F_kf, F_oc, F_va, F_lw, F_M, hzn, hT⟩ := hR
  have b_0 := c_0
  have b_1 := c_1
  have b_2 := c_2
  have b_3 := c_3
  have b_4 := c_4
  have b_5 := c_5
  have b_6 := c_6
  have b_7 := c_7
  have b_8 := c_8
  have b_9 := c_9
  have b_90 := c_90
  have b_91 := c_91
  have b_92 := c_92
  have b_93 := c_93
  have b_94 := c_94
  have b_95 := c_95
  have b_96 := c_96
  have b_97 := c_97
  have b_98 := c_98
  have b_99 := c_99
  have b_300 := c_300
  have b_301 := c_301
  refine lv_aload_n hx hb dX5_schedule_0 rfl (lv_at hl 0 rfl) ?_
  refine lv_iload_n hx hb dX5_schedule_1 rfl (lv_at hl 1 rfl) ?_
  have hRk : RepX ca ad n g z zn tb f := ⟨c_0,
        c_1,
        c_2,
        c_3,
        c_4,
        c_5,
        c_6,
        c_7,
        c_8,
        c_9,
        c_90,
        c_91,
        c_92,
        c_93,
        c_94,
        c_95,
        c_96,
        c_97,
        c_98,
        c_99,
        c_300,
        c_301,
        (fun i9 hi9 => by exact F_kf i9 hi9),
        (fun i9 hi9 => by exact F_oc i9 hi9),
        (fun i9 hi9 => by exact F_va i9 hi9),
        (fun i9 hi9 => by exact F_lw i9 hi9),
        (fun i9 hi9 => by exact F_M i9 hi9), hzn, hT⟩
  have hfr : ∀ y, 302 ≤ y → f y = f y := (fun _ _ => rfl)
  refine x_Vi (q := 0) (As := [.int (nI i)]) (rest := []) ⟨hx, hb, hml, hown, hts⟩ (k_X5_isFile_yes l D ca N ad B tR tK f dd hN n g z zn tb hRk i (by omega) (by omega)) (cwV 1 hts gX5_schedule_X5_isFile rfl rfl rfl (by decide +kernel) ⟨Nat.le_of_ble_eq_true rfl, Nat.le_of_ble_eq_true rfl⟩) hK hE hB hw (by omega) c_0 rfl rfl rfl rfl hl.1 (Nat.le_of_ble_eq_true rfl) ⟨Nat.zero_le _, Nat.zero_le _⟩ dX5_schedule_2 (fun r_2 f_1 H locs hp hw => ?_)
  obtain ⟨er, hp⟩ := hp
  rw [← er]
  rw [← hp] at hw
  refine lv_if_ne (tgt := 10) hx hb dX5_schedule_5 (by decide) (fun _ => ?_) (fun h => absurd h (by decide))
  refine lv_iload_n hx hb dX5_schedule_10 rfl (lv_at hl 2 rfl) ?_
  refine x_Si (As := [.int (nI j)]) (rest := []) ⟨hx, hb, hml, hown, hts⟩ (k_X5_isDay_yes l D ca N ad B tR tK f dd j   (by omega)) (va_cwS 1 hts gX5_schedule_X5_isDay rfl rfl rfl (by decide +kernel) ⟨Nat.le_of_ble_eq_true rfl, Nat.le_of_ble_eq_true rfl⟩) hK hE hB hw rfl rfl hl.1 (Nat.le_of_ble_eq_true rfl) ⟨Nat.zero_le _, Nat.zero_le _⟩ dX5_schedule_11 (fun r_4 f_3 H locs hp hw => ?_)
  obtain ⟨er, eu⟩ := hp
  rw [← er]
  rw [← eu] at hw
  refine lv_if_eq (tgt := 29) hx hb dX5_schedule_14 (by decide) (fun h => absurd h (by decide)) (fun _ => ?_)
  refine lv_iload_n hx hb dX5_schedule_17 rfl (lv_at hl 3 rfl) ?_
  refine lv_iconst (v := nI 1) hx hb dX5_schedule_18 (by decide) ?_
  refine lv_icmp_lt (tgt := 29) hx hb dX5_schedule_19 (by decide) (fun hc_19 => ?_) (fun hc_19 => ?_)
  · refine lv_bipush (v := (-2)) hx hb dX5_schedule_29 (by decide) ?_
    have hRz : RepX ca ad n g z zn tb f := ⟨c_0,
          c_1,
          c_2,
          c_3,
          c_4,
          c_5,
          c_6,
          c_7,
          c_8,
          c_9,
          c_90,
          c_91,
          c_92,
          c_93,
          c_94,
          c_95,
          c_96,
          c_97,
          c_98,
          c_99,
          c_300,
          c_301,
          (fun i9 hi9 => by exact F_kf i9 hi9),
          (fun i9 hi9 => by exact F_oc i9 hi9),
          (fun i9 hi9 => by exact F_va i9 hi9),
          (fun i9 hi9 => by exact F_lw i9 hi9),
          (fun i9 hi9 => by exact F_M i9 hi9), hzn, hT⟩
    exact x_iret hx hb hr hlocks hw ⟨rfl, z, zn, hRz, (fun _ _ => rfl)⟩ dX5_schedule_31
  · refine lv_iload_n hx hb dX5_schedule_22 rfl (lv_at hl 3 rfl) ?_
    refine lv_sipush (v := nI 1000) hx hb dX5_schedule_23 (by decide) ?_
    refine lv_icmp_le (tgt := 32) hx hb dX5_schedule_26 (by decide) (fun hc_26 => ?_) (fun hc_26 => ?_)
    · exact absurd ho (fun z => z.elim hc_19 (fun q => absurd hc_26 (Int32.not_le.mpr q)))
    · refine lv_bipush (v := (-2)) hx hb dX5_schedule_29 (by decide) ?_
      have hRz : RepX ca ad n g z zn tb f := ⟨c_0,
            c_1,
            c_2,
            c_3,
            c_4,
            c_5,
            c_6,
            c_7,
            c_8,
            c_9,
            c_90,
            c_91,
            c_92,
            c_93,
            c_94,
            c_95,
            c_96,
            c_97,
            c_98,
            c_99,
            c_300,
            c_301,
            (fun i9 hi9 => by exact F_kf i9 hi9),
            (fun i9 hi9 => by exact F_oc i9 hi9),
            (fun i9 hi9 => by exact F_va i9 hi9),
            (fun i9 hi9 => by exact F_lw i9 hi9),
            (fun i9 hi9 => by exact F_M i9 hi9), hzn, hT⟩
      exact x_iret hx hb hr hlocks hw ⟨rfl, z, zn, hRz, (fun _ _ => rfl)⟩ dX5_schedule_31

set_option maxHeartbeats 4000000 in
set_option maxRecDepth 100000 in
theorem k_X5_schedule_in (l : Launch) (D : va_G) (ca : Nat → ClassId) (N : Nat) (ad : Nat → Nat) (B tR tK : Nat) (f : Nat → va_E) (dd : xD N ad B) (hN : 302 ≤ N) (n : Nat → Nat) (g : Nat → Nat → Int32) (z : Nat → Nat → Int32) (zn : Nat) (tb : Nat → Int32) (hR : RepX ca ad n g z zn tb f) (i : Nat) (j : Nat) (k : Nat) (h2 : n 2 ≤ 20) (hi : i < n 2) (hj : j ≤ 1000000) (hk1 : 1 ≤ k) (hk2 : k ≤ 1000) : xMi l yX5_schedule wsX5_schedule rmX5_schedule [.ref (ad 0), .int (nI i), .int (nI j), .int (nI k)] D ca N ad B tR tK f (fun r u => nI 1 = r ∧ ∃ (z1 : Nat → Nat → Int32) (zn1 : Nat), RepX ca ad n (va_up (va_up g 10 (upd (g 10) i (nI j))) 11 (upd (g 11) i (nI k))) z1 zn1 tb u ∧ ∀ y, 302 ≤ y → u y = f y) := by
  refine x_open (cc := cX5_schedule) (maxL := 4) (ret := (some .int)) (by decide) rfl (Nat.le_of_ble_eq_true rfl) ?_
  intro p e s m below meth c ls hx hb hml hown hts hr hlocks hnm hB hK hE hw hl
  have hown : s.vm.findClass RX5 = some m.cls := hown
  have hl : lv_has ls 4 [(0, .ref (ad 0)), (1, .int (nI i)), (2, .int (nI j)), (3, .int (nI k))] := hl
  obtain ⟨c_0, c_1, c_2, c_3, c_4, c_5, c_6, c_7, c_8, c_9, c_90, c_91, c_92, c_93, c_94, c_95, c_96, c_97, c_98, c_99, c_300, c_301, F_kf, F_oc, F_va, F_lw, F_M, hzn, hT⟩ := hR
  have hin_6 : ∀ w ∈ u_ws RX5 TX5 13, w ∈ wsX5_schedule := by decide +kernel
  have hf_49 := hts (.fieldLink RX5 49 "FixityRows" "files" "[LFixityRows$KeptFile;") (by decide +kernel)
  have b_0 := c_0
  have b_1 := c_1
  have b_2 := c_2
  have b_3 := c_3
  have b_4 := c_4
  have b_5 := c_5
  have b_6 := c_6
  have b_7 := c_7
  have b_8 := c_8
  have b_9 := c_9
  have b_90 := c_90
  have b_91 := c_91
  have b_92 := c_92
  have b_93 := c_93
  have b_94 := c_94
  have b_95 := c_95
  have b_96 := c_96
  have b_97 := c_97
  have b_98 := c_98
  have b_99 := c_99
  have b_300 := c_300
  have b_301 := c_301
  refine lv_aload_n hx hb dX5_schedule_0 rfl (lv_at hl 0 rfl) ?_
  refine lv_iload_n hx hb dX5_schedule_1 rfl (lv_at hl 1 rfl) ?_
  have hRk : RepX ca ad n g z zn tb f := ⟨c_0,
        c_1,
        c_2,
        c_3,
        c_4,
        c_5,
        c_6,
        c_7,
        c_8,
        c_9,
        c_90,
        c_91,
        c_92,
        c_93,
        c_94,
        c_95,
        c_96,
        c_97,
        c_98,
        c_99,
        c_300,
        c_301,
        (fun i9 hi9 => by exact F_kf i9 hi9),
        (fun i9 hi9 => by exact F_oc i9 hi9),
        (fun i9 hi9 => by exact F_va i9 hi9),
        (fun i9 hi9 => by exact F_lw i9 hi9),
        (fun i9 hi9 => by exact F_M i9 hi9), hzn, hT⟩
  have hfr : ∀ y, 302 ≤ y → f y = f y := (fun _ _ => rfl)
  refine x_Vi (q := 0) (As := [.int (nI i)]) (rest := []) ⟨hx, hb, hml, hown, hts⟩ (k_X5_isFile_yes l D ca N ad B tR tK f dd hN n g z zn tb hRk i (by omega) (by omega)) (cwV 1 hts gX5_schedule_X5_isFile rfl rfl rfl (by decide +kernel) ⟨Nat.le_of_ble_eq_true rfl, Nat.le_of_ble_eq_true rfl⟩) hK hE hB hw (by omega) c_0 rfl rfl rfl rfl hl.1 (Nat.le_of_ble_eq_true rfl) ⟨Nat.zero_le _, Nat.zero_le _⟩ dX5_schedule_2 (fun r_2 f_1 H locs hp hw => ?_)
  obtain ⟨er, hp⟩ := hp
  rw [← er]
  rw [← hp] at hw
  refine lv_if_ne (tgt := 10) hx hb dX5_schedule_5 (by decide) (fun _ => ?_) (fun h => absurd h (by decide))
  refine lv_iload_n hx hb dX5_schedule_10 rfl (lv_at hl 2 rfl) ?_
  refine x_Si (As := [.int (nI j)]) (rest := []) ⟨hx, hb, hml, hown, hts⟩ (k_X5_isDay_yes l D ca N ad B tR tK f dd j   (by omega)) (va_cwS 1 hts gX5_schedule_X5_isDay rfl rfl rfl (by decide +kernel) ⟨Nat.le_of_ble_eq_true rfl, Nat.le_of_ble_eq_true rfl⟩) hK hE hB hw rfl rfl hl.1 (Nat.le_of_ble_eq_true rfl) ⟨Nat.zero_le _, Nat.zero_le _⟩ dX5_schedule_11 (fun r_4 f_3 H locs hp hw => ?_)
  obtain ⟨er, eu⟩ := hp
  rw [← er]
  rw [← eu] at hw
  refine lv_if_eq (tgt := 29) hx hb dX5_schedule_14 (by decide) (fun h => absurd h (by decide)) (fun _ => ?_)
  refine lv_iload_n hx hb dX5_schedule_17 rfl (lv_at hl 3 rfl) ?_
  refine lv_iconst (v := nI 1) hx hb dX5_schedule_18 (by decide) ?_
  refine n_iclt (tgt := 29) hx hb dX5_schedule_19 (by decide) (by omega) (by omega) (fun hc_19 => ?_) (fun hc_19 => ?_)
  · omega
  · refine lv_iload_n hx hb dX5_schedule_22 rfl (lv_at hl 3 rfl) ?_
    refine lv_sipush (v := nI 1000) hx hb dX5_schedule_23 (by decide) ?_
    refine n_icle (tgt := 32) hx hb dX5_schedule_26 (by decide) (by omega) (by omega) (fun hc_26 => ?_) (fun hc_26 => ?_)
    · refine lv_aload_n hx hb dX5_schedule_32 rfl (lv_at hl 0 rfl) ?_
      refine x_get (ci := 6) (C := RX5) (T := TX5) (n := 13) (ref := RX5) hx hb hts hin_6 hown hK hw 0 (by omega) c_0 rfl 6 (by decide) hf_49 (fun _ h => h) rfl dX5_schedule_33 ?_
      refine lv_iload_n hx hb dX5_schedule_36 rfl (lv_at hl 1 rfl) ?_
      refine x_aald (j := i) (a := ad (10 + 4 * i)) hx hb hK hw 9 3 (by omega) c_9 rfl rfl (by omega) (by decide) rfl dX5_schedule_37 ?_
      refine lv_iload_n hx hb dX5_schedule_38 rfl (lv_at hl 2 rfl) ?_
      refine lv_iload_n hx hb dX5_schedule_39 rfl (lv_at hl 3 rfl) ?_
      have c_10_4_i : f (10 + 4 * i) = .inr (1, [.ref (ad (11 + 4 * i)), .ref (ad (13 + 4 * i)), .int (g 7 i), .int (g 8 i), .int (g 9 i), .int (g 10 i), .int (g 11 i), .int (g 12 i)]) := (F_kf i (by omega))
      refine x_Vv (q := 10 + 4 * i) (As := [.int (nI j), .int (nI k)]) (rest := []) ⟨hx, hb, hml, hown, hts⟩ (k_X0_plan l D ca N ad B tR tK f dd (10 + 4 * i) (11 + 4 * i) (13 + 4 * i) (g 7 i) (g 8 i) (g 9 i) (g 10 i) (g 11 i) (g 12 i) (nI j) (nI k) (by omega) c_10_4_i  ) (cwV 2 hts gX5_schedule_X0_plan rfl rfl rfl (by decide +kernel) ⟨Nat.le_of_ble_eq_true rfl, Nat.le_of_ble_eq_true rfl⟩) hK hE hB hw (by omega) c_10_4_i rfl rfl rfl rfl hl.1 (Nat.le_of_ble_eq_true rfl) ⟨Nat.zero_le _, Nat.zero_le _⟩ dX5_schedule_40 (fun f_5 H locs hp hw => ?_)
      have eu := hp
      have ef_5 : f_5 = va_up f (10 + 4 * i) (.inr (1, [.ref (ad (11 + 4 * i)), .ref (ad (13 + 4 * i)), .int (g 7 i), .int (g 8 i), .int (g 9 i), .int (nI j), .int (nI k), .int (g 12 i)])) := eu
      have c_10_4_i : f_5 (10 + 4 * i) = .inr (1, [.ref (ad (11 + 4 * i)), .ref (ad (13 + 4 * i)), .int (g 7 i), .int (g 8 i), .int (g 9 i), .int (nI j), .int (nI k), .int (g 12 i)]) := by rw [ef_5, va_up_self]
      refine lv_iconst (v := nI 1) hx hb dX5_schedule_43 (by decide) ?_
      have c_0 : f_5 0 = .inr (6, [.int (nI (n 0)), .ref (ad 1), .ref (ad 4), .ref (ad 6), .ref (ad 8), .int (nI (n 1)), .ref (ad 9), .int (nI (n 2)), .ref (ad 90), .ref (ad 300), .ref (ad 301), .int (nI (n 3)), .int (g 13 0)]) := by rw [ef_5, va_up_ne _ _ (by omega)]; exact c_0
      have c_1 : f_5 1 = .inr (2, [.ref (ad 2), .ref (ad 3)]) := by rw [ef_5, va_up_ne _ _ (by omega)]; exact c_1
      have c_2 : f_5 2 = ai (ca 0) 8 (z 0) := by rw [ef_5, va_up_ne _ _ (by omega)]; exact c_2
      have c_3 : f_5 3 = ai (ca 0) 64 (z 1) := by rw [ef_5, va_up_ne _ _ (by omega)]; exact c_3
      have c_4 : f_5 4 = .inr (5, [.ref (ad 5)]) := by rw [ef_5, va_up_ne _ _ (by omega)]; exact c_4
      have c_5 : f_5 5 = ai (ca 0) 256 tb := by rw [ef_5, va_up_ne _ _ (by omega)]; exact c_5
      have c_6 : f_5 6 = .inr (3, [.ref (ad 7), .int (nI (n 4))]) := by rw [ef_5, va_up_ne _ _ (by omega)]; exact c_6
      have c_7 : f_5 7 = ai (ca 0) 200 (g 0) := by rw [ef_5, va_up_ne _ _ (by omega)]; exact c_7
      have c_8 : f_5 8 = ai (ca 0) 8 (g 1) := by rw [ef_5, va_up_ne _ _ (by omega)]; exact c_8
      have c_9 : f_5 9 = aq (ca 3) 20 (fun i => some (ad (10 + 4 * i))) := by rw [ef_5, va_up_ne _ _ (by omega)]; exact c_9
      have c_90 : f_5 90 = .inr (4, [.ref (ad 91), .ref (ad 94), .ref (ad 96), .ref (ad 97), .ref (ad 98), .ref (ad 99), .int (nI (n 5))]) := by rw [ef_5, va_up_ne _ _ (by omega)]; exact c_90
      have c_91 : f_5 91 = .inr (2, [.ref (ad 92), .ref (ad 93)]) := by rw [ef_5, va_up_ne _ _ (by omega)]; exact c_91
      have c_92 : f_5 92 = ai (ca 0) 8 (z 2) := by rw [ef_5, va_up_ne _ _ (by omega)]; exact c_92
      have c_93 : f_5 93 = ai (ca 0) 64 (z 3) := by rw [ef_5, va_up_ne _ _ (by omega)]; exact c_93
      have c_94 : f_5 94 = .inr (3, [.ref (ad 95), .int (nI zn)]) := by rw [ef_5, va_up_ne _ _ (by omega)]; exact c_94
      have c_95 : f_5 95 = ai (ca 0) 200 (z 4) := by rw [ef_5, va_up_ne _ _ (by omega)]; exact c_95
      have c_96 : f_5 96 = ai (ca 0) 200 (g 4) := by rw [ef_5, va_up_ne _ _ (by omega)]; exact c_96
      have c_97 : f_5 97 = ai (ca 0) 200 (g 5) := by rw [ef_5, va_up_ne _ _ (by omega)]; exact c_97
      have c_98 : f_5 98 = ai (ca 0) 200 (g 6) := by rw [ef_5, va_up_ne _ _ (by omega)]; exact c_98
      have c_99 : f_5 99 = aq (ca 4) 200 (fun i => some (ad (100 + i))) := by rw [ef_5, va_up_ne _ _ (by omega)]; exact c_99
      have c_300 : f_5 300 = ai (ca 0) 20 (g 2) := by rw [ef_5, va_up_ne _ _ (by omega)]; exact c_300
      have c_301 : f_5 301 = ai (ca 2) 20 (g 3) := by rw [ef_5, va_up_ne _ _ (by omega)]; exact c_301
      have qg_0 : (va_up (va_up g 10 (upd (g 10) i (nI j))) 11 (upd (g 11) i (nI k))) 0 = g 0 := by rw [va_up_ne _ _ (by decide), va_up_ne _ _ (by decide)]
      have qg_1 : (va_up (va_up g 10 (upd (g 10) i (nI j))) 11 (upd (g 11) i (nI k))) 1 = g 1 := by rw [va_up_ne _ _ (by decide), va_up_ne _ _ (by decide)]
      have qg_2 : (va_up (va_up g 10 (upd (g 10) i (nI j))) 11 (upd (g 11) i (nI k))) 2 = g 2 := by rw [va_up_ne _ _ (by decide), va_up_ne _ _ (by decide)]
      have qg_3 : (va_up (va_up g 10 (upd (g 10) i (nI j))) 11 (upd (g 11) i (nI k))) 3 = g 3 := by rw [va_up_ne _ _ (by decide), va_up_ne _ _ (by decide)]
      have qg_4 : (va_up (va_up g 10 (upd (g 10) i (nI j))) 11 (upd (g 11) i (nI k))) 4 = g 4 := by rw [va_up_ne _ _ (by decide), va_up_ne _ _ (by decide)]
      have qg_5 : (va_up (va_up g 10 (upd (g 10) i (nI j))) 11 (upd (g 11) i (nI k))) 5 = g 5 := by rw [va_up_ne _ _ (by decide), va_up_ne _ _ (by decide)]
      have qg_6 : (va_up (va_up g 10 (upd (g 10) i (nI j))) 11 (upd (g 11) i (nI k))) 6 = g 6 := by rw [va_up_ne _ _ (by decide), va_up_ne _ _ (by decide)]
      have qg_7 : (va_up (va_up g 10 (upd (g 10) i (nI j))) 11 (upd (g 11) i (nI k))) 7 = g 7 := by rw [va_up_ne _ _ (by decide), va_up_ne _ _ (by decide)]
      have qg_8 : (va_up (va_up g 10 (upd (g 10) i (nI j))) 11 (upd (g 11) i (nI k))) 8 = g 8 := by rw [va_up_ne _ _ (by decide), va_up_ne _ _ (by decide)]
      have qg_9 : (va_up (va_up g 10 (upd (g 10) i (nI j))) 11 (upd (g 11) i (nI k))) 9 = g 9 := by rw [va_up_ne _ _ (by decide), va_up_ne _ _ (by decide)]
      have qg_10 : (va_up (va_up g 10 (upd (g 10) i (nI j))) 11 (upd (g 11) i (nI k))) 10 = upd (g 10) i (nI j) := by rw [va_up_ne _ _ (by decide), va_up_self]
      have qg_11 : (va_up (va_up g 10 (upd (g 10) i (nI j))) 11 (upd (g 11) i (nI k))) 11 = upd (g 11) i (nI k) := by rw [va_up_self]
      have qg_12 : (va_up (va_up g 10 (upd (g 10) i (nI j))) 11 (upd (g 11) i (nI k))) 12 = g 12 := by rw [va_up_ne _ _ (by decide), va_up_ne _ _ (by decide)]
      have qg_13 : (va_up (va_up g 10 (upd (g 10) i (nI j))) 11 (upd (g 11) i (nI k))) 13 = g 13 := by rw [va_up_ne _ _ (by decide), va_up_ne _ _ (by decide)]
      have hRz : RepX ca ad n (va_up (va_up g 10 (upd (g 10) i (nI j))) 11 (upd (g 11) i (nI k))) z zn tb f_5 := ⟨(by rw [qg_13]; exact c_0),
            c_1,
            c_2,
            c_3,
            c_4,
            c_5,
            c_6,
            (by rw [qg_0]; exact c_7),
            (by rw [qg_1]; exact c_8),
            c_9,
            c_90,
            c_91,
            c_92,
            c_93,
            c_94,
            c_95,
            (by rw [qg_4]; exact c_96),
            (by rw [qg_5]; exact c_97),
            (by rw [qg_6]; exact c_98),
            c_99,
            (by rw [qg_2]; exact c_300),
            (by rw [qg_3]; exact c_301),
            (fun i9 hi9 => by
            by_cases ei : i9 = i
            · rw [ei]; simp only [qg_7, qg_8, qg_9, qg_10, qg_11, qg_12, pk_us]; exact c_10_4_i
            · simp only [qg_7, qg_8, qg_9, qg_10, qg_11, qg_12, pk_un ei]; rw [ef_5, va_up_ne _ _ (by omega)]; exact F_kf i9 hi9),
            (fun i9 hi9 => by rw [ef_5, va_up_ne _ _ (by omega)]; exact F_oc i9 hi9),
            (fun i9 hi9 => by rw [va_up_ne _ _ (by omega), va_up_ne _ _ (by omega)]; rw [ef_5, va_up_ne _ _ (by omega)]; exact F_va i9 hi9),
            (fun i9 hi9 => by rw [va_up_ne _ _ (by omega), va_up_ne _ _ (by omega)]; rw [ef_5, va_up_ne _ _ (by omega)]; exact F_lw i9 hi9),
            (fun i9 hi9 => by rw [va_up_ne _ _ (by omega), va_up_ne _ _ (by omega)]; rw [ef_5, va_up_ne _ _ (by omega)]; exact F_M i9 hi9), hzn, hT⟩
      exact x_iret hx hb hr hlocks hw ⟨rfl, z, zn, hRz, (fun y hy => by rw [ef_5, va_up_ne _ _ (by omega)])⟩ dX5_schedule_44
    · omega

abbrev rmX5_told : Room := { frames := 0, cells := 0, slots := 0, locals := 0 }

set_option maxHeartbeats 4000000 in
set_option maxRecDepth 100000 in
theorem k_X5_told_none (l : Launch) (D : va_G) (ca : Nat → ClassId) (N : Nat) (ad : Nat → Nat) (B tR tK : Nat) (f : Nat → va_E) (dd : xD N ad B) (hN : 302 ≤ N) (n : Nat → Nat) (g : Nat → Nat → Int32) (z : Nat → Nat → Int32) (zn : Nat) (tb : Nat → Int32) (hR : RepX ca ad n g z zn tb f) (x : Int32) (y : Int32) (ho : x < 0 ∨ nI (n 3) ≤ x) : xMi l yX5_told wsX5_told rmX5_told [.ref (ad 0), .int x, .int y] D ca N ad B tR tK f (fun r u => (-1) = r ∧ ∃ (z1 : Nat → Nat → Int32) (zn1 : Nat), RepX ca ad n g z1 zn1 tb u ∧ ∀ y, 302 ≤ y → u y = f y) := by
  refine x_open (cc := cX5_told) (maxL := 3) (ret := (some .int)) (by decide) rfl (Nat.le_of_ble_eq_true rfl) ?_
  intro p e s m below meth c ls hx hb hml hown hts hr hlocks hnm hB hK hE hw hl
  have hown : s.vm.findClass RX5 = some m.cls := hown
  have hl : lv_has ls 3 [(0, .ref (ad 0)), (1, .int x), (2, .int y)] := hl
  obtain ⟨c_0, c_1, c_2, c_3, c_4, c_5, c_6, c_7, c_8, c_9, c_90, c_91, c_92, c_93, c_94, c_95, c_96, c_97, c_98, c_99, c_300, c_301, F_kf, F_oc, F_va, F_lw, F_M, hzn, hT⟩ := hR
  have hin_6 : ∀ w ∈ u_ws RX5 TX5 13, w ∈ wsX5_told := by decide +kernel
  have hf_150 := hts (.fieldLink RX5 150 "FixityRows" "checkedCount" "I") (by decide +kernel)
  have b_0 := c_0
  have b_1 := c_1
  have b_2 := c_2
  have b_3 := c_3
  have b_4 := c_4
  have b_5 := c_5
  have b_6 := c_6
  have b_7 := c_7
  have b_8 := c_8
  have b_9 := c_9
  have b_90 := c_90
  have b_91 := c_91
  have b_92 := c_92
  have b_93 := c_93
  have b_94 := c_94
  have b_95 := c_95
  have b_96 := c_96
  have b_97 := c_97
  have b_98 := c_98
  have b_99 := c_99
  have b_300 := c_300
  have b_301 := c_301
  refine lv_iload_n hx hb dX5_told_0 rfl (lv_at hl 1 rfl) ?_
  refine lv_if_lt (tgt := 12) hx hb dX5_told_1 (by decide) (fun hc_1 => ?_) (fun hc_1 => ?_)
  · refine lv_iconst (v := (-1)) hx hb dX5_told_12 (by decide) ?_
    have hRz : RepX ca ad n g z zn tb f := ⟨c_0,
          c_1,
          c_2,
          c_3,
          c_4,
          c_5,
          c_6,
          c_7,
          c_8,
          c_9,
          c_90,
          c_91,
          c_92,
          c_93,
          c_94,
          c_95,
          c_96,
          c_97,
          c_98,
          c_99,
          c_300,
          c_301,
          (fun i9 hi9 => by exact F_kf i9 hi9),
          (fun i9 hi9 => by exact F_oc i9 hi9),
          (fun i9 hi9 => by exact F_va i9 hi9),
          (fun i9 hi9 => by exact F_lw i9 hi9),
          (fun i9 hi9 => by exact F_M i9 hi9), hzn, hT⟩
    exact x_iret hx hb hr hlocks hw ⟨rfl, z, zn, hRz, (fun _ _ => rfl)⟩ dX5_told_13
  · refine lv_iload_n hx hb dX5_told_4 rfl (lv_at hl 1 rfl) ?_
    refine lv_aload_n hx hb dX5_told_5 rfl (lv_at hl 0 rfl) ?_
    refine x_get (ci := 6) (C := RX5) (T := TX5) (n := 13) (ref := RX5) hx hb hts hin_6 hown hK hw 0 (by omega) c_0 rfl 11 (by decide) hf_150 (fun _ h => h) rfl dX5_told_6 ?_
    refine lv_icmp_lt (tgt := 14) hx hb dX5_told_9 (by decide) (fun hc_9 => ?_) (fun hc_9 => ?_)
    · exact absurd ho (fun z => z.elim hc_1 (fun q => absurd hc_9 (Int32.not_lt.mpr q)))
    · refine lv_iconst (v := (-1)) hx hb dX5_told_12 (by decide) ?_
      have hRz : RepX ca ad n g z zn tb f := ⟨c_0,
            c_1,
            c_2,
            c_3,
            c_4,
            c_5,
            c_6,
            c_7,
            c_8,
            c_9,
            c_90,
            c_91,
            c_92,
            c_93,
            c_94,
            c_95,
            c_96,
            c_97,
            c_98,
            c_99,
            c_300,
            c_301,
            (fun i9 hi9 => by exact F_kf i9 hi9),
            (fun i9 hi9 => by exact F_oc i9 hi9),
            (fun i9 hi9 => by exact F_va i9 hi9),
            (fun i9 hi9 => by exact F_lw i9 hi9),
            (fun i9 hi9 => by exact F_M i9 hi9), hzn, hT⟩
      exact x_iret hx hb hr hlocks hw ⟨rfl, z, zn, hRz, (fun _ _ => rfl)⟩ dX5_told_13

set_option maxHeartbeats 4000000 in
set_option maxRecDepth 100000 in
theorem k_X5_told_w0 (l : Launch) (D : va_G) (ca : Nat → ClassId) (N : Nat) (ad : Nat → Nat) (B tR tK : Nat) (f : Nat → va_E) (dd : xD N ad B) (hN : 302 ≤ N) (n : Nat → Nat) (g : Nat → Nat → Int32) (z : Nat → Nat → Int32) (zn : Nat) (tb : Nat → Int32) (hR : RepX ca ad n g z zn tb f) (i : Nat) (h3 : n 3 ≤ 20) (hi : i < n 3) : xMi l yX5_told wsX5_told rmX5_told [.ref (ad 0), .int (nI i), .int (nI 0)] D ca N ad B tR tK f (fun r u => g 2 i = r ∧ ∃ (z1 : Nat → Nat → Int32) (zn1 : Nat), RepX ca ad n g z1 zn1 tb u ∧ ∀ y, 302 ≤ y → u y = f y) := by
  refine x_open (cc := cX5_told) (maxL := 3) (ret := (some .int)) (by decide) rfl (Nat.le_of_ble_eq_true rfl) ?_
  intro p e s m below meth c ls hx hb hml hown hts hr hlocks hnm hB hK hE hw hl
  have hown : s.vm.findClass RX5 = some m.cls := hown
  have hl : lv_has ls 3 [(0, .ref (ad 0)), (1, .int (nI i)), (2, .int (nI 0))] := hl
  obtain ⟨c_0, c_1, c_2, c_3, c_4, c_5, c_6, c_7, c_8, c_9, c_90, c_91, c_92, c_93, c_94, c_95, c_96, c_97, c_98, c_99, c_300, c_301, F_kf, F_oc, F_va, F_lw, F_M, hzn, hT⟩ := hR
  have hin_6 : ∀ w ∈ u_ws RX5 TX5 13, w ∈ wsX5_told := by decide +kernel
  have hf_150 := hts (.fieldLink RX5 150 "FixityRows" "checkedCount" "I") (by decide +kernel)
  have hf_61 := hts (.fieldLink RX5 61 "FixityRows" "checkedFiles" "[I") (by decide +kernel)
  have b_0 := c_0
  have b_1 := c_1
  have b_2 := c_2
  have b_3 := c_3
  have b_4 := c_4
  have b_5 := c_5
  have b_6 := c_6
  have b_7 := c_7
  have b_8 := c_8
  have b_9 := c_9
  have b_90 := c_90
  have b_91 := c_91
  have b_92 := c_92
  have b_93 := c_93
  have b_94 := c_94
  have b_95 := c_95
  have b_96 := c_96
  have b_97 := c_97
  have b_98 := c_98
  have b_99 := c_99
  have b_300 := c_300
  have b_301 := c_301
  refine lv_iload_n hx hb dX5_told_0 rfl (lv_at hl 1 rfl) ?_
  refine n_iflt (tgt := 12) hx hb dX5_told_1 (by decide) (by omega) ?_
  refine lv_iload_n hx hb dX5_told_4 rfl (lv_at hl 1 rfl) ?_
  refine lv_aload_n hx hb dX5_told_5 rfl (lv_at hl 0 rfl) ?_
  refine x_get (ci := 6) (C := RX5) (T := TX5) (n := 13) (ref := RX5) hx hb hts hin_6 hown hK hw 0 (by omega) c_0 rfl 11 (by decide) hf_150 (fun _ h => h) rfl dX5_told_6 ?_
  refine n_iclt (tgt := 14) hx hb dX5_told_9 (by decide) (by omega) (by omega) (fun hc_9 => ?_) (fun hc_9 => ?_)
  · refine lv_iload_n hx hb dX5_told_14 rfl (lv_at hl 2 rfl) ?_
    refine lv_lookup (off := 25) (tgt := 40) hx hb dX5_told_15 (by decide) (by decide) (by decide) ?_
    refine lv_aload_n hx hb dX5_told_40 rfl (lv_at hl 0 rfl) ?_
    refine x_get (ci := 6) (C := RX5) (T := TX5) (n := 13) (ref := RX5) hx hb hts hin_6 hown hK hw 0 (by omega) c_0 rfl 9 (by decide) hf_61 (fun _ h => h) rfl dX5_told_41 ?_
    refine lv_iload_n hx hb dX5_told_44 rfl (lv_at hl 1 rfl) ?_
    refine x_iald (j := i) hx hb hK hw 300 0 (by omega) c_300 rfl rfl (by omega) (by decide) dX5_told_45 ?_
    have hRz : RepX ca ad n g z zn tb f := ⟨c_0,
          c_1,
          c_2,
          c_3,
          c_4,
          c_5,
          c_6,
          c_7,
          c_8,
          c_9,
          c_90,
          c_91,
          c_92,
          c_93,
          c_94,
          c_95,
          c_96,
          c_97,
          c_98,
          c_99,
          c_300,
          c_301,
          (fun i9 hi9 => by exact F_kf i9 hi9),
          (fun i9 hi9 => by exact F_oc i9 hi9),
          (fun i9 hi9 => by exact F_va i9 hi9),
          (fun i9 hi9 => by exact F_lw i9 hi9),
          (fun i9 hi9 => by exact F_M i9 hi9), hzn, hT⟩
    exact x_iret hx hb hr hlocks hw ⟨rfl, z, zn, hRz, (fun _ _ => rfl)⟩ dX5_told_46
  · omega

set_option maxHeartbeats 4000000 in
set_option maxRecDepth 100000 in
theorem k_X5_told_w1 (l : Launch) (D : va_G) (ca : Nat → ClassId) (N : Nat) (ad : Nat → Nat) (B tR tK : Nat) (f : Nat → va_E) (dd : xD N ad B) (hN : 302 ≤ N) (n : Nat → Nat) (g : Nat → Nat → Int32) (z : Nat → Nat → Int32) (zn : Nat) (tb : Nat → Int32) (hR : RepX ca ad n g z zn tb f) (i : Nat) (h3 : n 3 ≤ 20) (hi : i < n 3) (hz9 : g 3 i = 0 ∨ g 3 i = 1) : xMi l yX5_told wsX5_told rmX5_told [.ref (ad 0), .int (nI i), .int (nI 1)] D ca N ad B tR tK f (fun r u => g 3 i = r ∧ ∃ (z1 : Nat → Nat → Int32) (zn1 : Nat), RepX ca ad n g z1 zn1 tb u ∧ ∀ y, 302 ≤ y → u y = f y) := by
  refine x_open (cc := cX5_told) (maxL := 3) (ret := (some .int)) (by decide) rfl (Nat.le_of_ble_eq_true rfl) ?_
  intro p e s m below meth c ls hx hb hml hown hts hr hlocks hnm hB hK hE hw hl
  have hown : s.vm.findClass RX5 = some m.cls := hown
  have hl : lv_has ls 3 [(0, .ref (ad 0)), (1, .int (nI i)), (2, .int (nI 1))] := hl
  obtain ⟨c_0, c_1, c_2, c_3, c_4, c_5, c_6, c_7, c_8, c_9, c_90, c_91, c_92, c_93, c_94, c_95, c_96, c_97, c_98, c_99, c_300, c_301, F_kf, F_oc, F_va, F_lw, F_M, hzn, hT⟩ := hR
  have hin_6 : ∀ w ∈ u_ws RX5 TX5 13, w ∈ wsX5_told := by decide +kernel
  have hf_150 := hts (.fieldLink RX5 150 "FixityRows" "checkedCount" "I") (by decide +kernel)
  have hf_64 := hts (.fieldLink RX5 64 "FixityRows" "checkedFits" "[Z") (by decide +kernel)
  have b_0 := c_0
  have b_1 := c_1
  have b_2 := c_2
  have b_3 := c_3
  have b_4 := c_4
  have b_5 := c_5
  have b_6 := c_6
  have b_7 := c_7
  have b_8 := c_8
  have b_9 := c_9
  have b_90 := c_90
  have b_91 := c_91
  have b_92 := c_92
  have b_93 := c_93
  have b_94 := c_94
  have b_95 := c_95
  have b_96 := c_96
  have b_97 := c_97
  have b_98 := c_98
  have b_99 := c_99
  have b_300 := c_300
  have b_301 := c_301
  refine lv_iload_n hx hb dX5_told_0 rfl (lv_at hl 1 rfl) ?_
  refine n_iflt (tgt := 12) hx hb dX5_told_1 (by decide) (by omega) ?_
  refine lv_iload_n hx hb dX5_told_4 rfl (lv_at hl 1 rfl) ?_
  refine lv_aload_n hx hb dX5_told_5 rfl (lv_at hl 0 rfl) ?_
  refine x_get (ci := 6) (C := RX5) (T := TX5) (n := 13) (ref := RX5) hx hb hts hin_6 hown hK hw 0 (by omega) c_0 rfl 11 (by decide) hf_150 (fun _ h => h) rfl dX5_told_6 ?_
  refine n_iclt (tgt := 14) hx hb dX5_told_9 (by decide) (by omega) (by omega) (fun hc_9 => ?_) (fun hc_9 => ?_)
  · refine lv_iload_n hx hb dX5_told_14 rfl (lv_at hl 2 rfl) ?_
    refine lv_lookup (off := 32) (tgt := 47) hx hb dX5_told_15 (by decide) (by decide) (by decide) ?_
    refine lv_aload_n hx hb dX5_told_47 rfl (lv_at hl 0 rfl) ?_
    refine x_get (ci := 6) (C := RX5) (T := TX5) (n := 13) (ref := RX5) hx hb hts hin_6 hown hK hw 0 (by omega) c_0 rfl 10 (by decide) hf_64 (fun _ h => h) rfl dX5_told_48 ?_
    refine lv_iload_n hx hb dX5_told_51 rfl (lv_at hl 1 rfl) ?_
    refine x_zald (j := i) hx hb hK hw 301 2 (by omega) c_301 rfl rfl (by omega) (by decide) dX5_told_52 ?_
    refine lv_if_eq (tgt := 60) hx hb dX5_told_53 (by decide) (fun hc_53 => ?_) (fun hc_53 => ?_)
    · refine lv_iconst (v := nI 0) hx hb dX5_told_60 (by decide) ?_
      have hRz : RepX ca ad n g z zn tb f := ⟨c_0,
            c_1,
            c_2,
            c_3,
            c_4,
            c_5,
            c_6,
            c_7,
            c_8,
            c_9,
            c_90,
            c_91,
            c_92,
            c_93,
            c_94,
            c_95,
            c_96,
            c_97,
            c_98,
            c_99,
            c_300,
            c_301,
            (fun i9 hi9 => by exact F_kf i9 hi9),
            (fun i9 hi9 => by exact F_oc i9 hi9),
            (fun i9 hi9 => by exact F_va i9 hi9),
            (fun i9 hi9 => by exact F_lw i9 hi9),
            (fun i9 hi9 => by exact F_M i9 hi9), hzn, hT⟩
      exact x_iret hx hb hr hlocks hw ⟨hc_53, z, zn, hRz, (fun _ _ => rfl)⟩ dX5_told_61
    · refine lv_iconst (v := nI 1) hx hb dX5_told_56 (by decide) ?_
      refine lv_goto (tgt := 61) hx hb dX5_told_57 (by decide) ?_
      have hRz : RepX ca ad n g z zn tb f := ⟨c_0,
            c_1,
            c_2,
            c_3,
            c_4,
            c_5,
            c_6,
            c_7,
            c_8,
            c_9,
            c_90,
            c_91,
            c_92,
            c_93,
            c_94,
            c_95,
            c_96,
            c_97,
            c_98,
            c_99,
            c_300,
            c_301,
            (fun i9 hi9 => by exact F_kf i9 hi9),
            (fun i9 hi9 => by exact F_oc i9 hi9),
            (fun i9 hi9 => by exact F_va i9 hi9),
            (fun i9 hi9 => by exact F_lw i9 hi9),
            (fun i9 hi9 => by exact F_M i9 hi9), hzn, hT⟩
      exact x_iret hx hb hr hlocks hw ⟨(hz9.resolve_left hc_53), z, zn, hRz, (fun _ _ => rfl)⟩ dX5_told_61
  · omega

set_option maxHeartbeats 4000000 in
set_option maxRecDepth 100000 in
theorem k_X5_told_no (l : Launch) (D : va_G) (ca : Nat → ClassId) (N : Nat) (ad : Nat → Nat) (B tR tK : Nat) (f : Nat → va_E) (dd : xD N ad B) (hN : 302 ≤ N) (n : Nat → Nat) (g : Nat → Nat → Int32) (z : Nat → Nat → Int32) (zn : Nat) (tb : Nat → Int32) (hR : RepX ca ad n g z zn tb f) (i : Nat) (y : Int32) (h3 : n 3 ≤ 20) (hi : i < n 3) (ho0 : ¬ y = 0) (ho1 : ¬ y = nI 1) : xMi l yX5_told wsX5_told rmX5_told [.ref (ad 0), .int (nI i), .int y] D ca N ad B tR tK f (fun r u => (-1) = r ∧ ∃ (z1 : Nat → Nat → Int32) (zn1 : Nat), RepX ca ad n g z1 zn1 tb u ∧ ∀ y, 302 ≤ y → u y = f y) := by
  refine x_open (cc := cX5_told) (maxL := 3) (ret := (some .int)) (by decide) rfl (Nat.le_of_ble_eq_true rfl) ?_
  intro p e s m below meth c ls hx hb hml hown hts hr hlocks hnm hB hK hE hw hl
  have hown : s.vm.findClass RX5 = some m.cls := hown
  have hl : lv_has ls 3 [(0, .ref (ad 0)), (1, .int (nI i)), (2, .int y)] := hl
  obtain ⟨c_0, c_1, c_2, c_3, c_4, c_5, c_6, c_7, c_8, c_9, c_90, c_91, c_92, c_93, c_94, c_95, c_96, c_97, c_98, c_99, c_300, c_301, F_kf, F_oc, F_va, F_lw, F_M, hzn, hT⟩ := hR
  have hin_6 : ∀ w ∈ u_ws RX5 TX5 13, w ∈ wsX5_told := by decide +kernel
  have hf_150 := hts (.fieldLink RX5 150 "FixityRows" "checkedCount" "I") (by decide +kernel)
  have b_0 := c_0
  have b_1 := c_1
  have b_2 := c_2
  have b_3 := c_3
  have b_4 := c_4
  have b_5 := c_5
  have b_6 := c_6
  have b_7 := c_7
  have b_8 := c_8
  have b_9 := c_9
  have b_90 := c_90
  have b_91 := c_91
  have b_92 := c_92
  have b_93 := c_93
  have b_94 := c_94
  have b_95 := c_95
  have b_96 := c_96
  have b_97 := c_97
  have b_98 := c_98
  have b_99 := c_99
  have b_300 := c_300
  have b_301 := c_301
  refine lv_iload_n hx hb dX5_told_0 rfl (lv_at hl 1 rfl) ?_
  refine n_iflt (tgt := 12) hx hb dX5_told_1 (by decide) (by omega) ?_
  refine lv_iload_n hx hb dX5_told_4 rfl (lv_at hl 1 rfl) ?_
  refine lv_aload_n hx hb dX5_told_5 rfl (lv_at hl 0 rfl) ?_
  refine x_get (ci := 6) (C := RX5) (T := TX5) (n := 13) (ref := RX5) hx hb hts hin_6 hown hK hw 0 (by omega) c_0 rfl 11 (by decide) hf_150 (fun _ h => h) rfl dX5_told_6 ?_
  refine n_iclt (tgt := 14) hx hb dX5_told_9 (by decide) (by omega) (by omega) (fun hc_9 => ?_) (fun hc_9 => ?_)
  · refine lv_iload_n hx hb dX5_told_14 rfl (lv_at hl 2 rfl) ?_
    refine lv_lookup (off := 47) (tgt := 62) hx hb dX5_told_15 (by decide) (by rw [show (#[((0 : Int), (25 : Int)), (1, 32)] : Array (Int × Int)).toList = [(0, 25), (1, 32)] from rfl, lv_osw ho0 (by decide), lv_osw ho1 (by decide)]; rfl) (by decide) ?_
    refine lv_iconst (v := (-1)) hx hb dX5_told_62 (by decide) ?_
    have hRz : RepX ca ad n g z zn tb f := ⟨c_0,
          c_1,
          c_2,
          c_3,
          c_4,
          c_5,
          c_6,
          c_7,
          c_8,
          c_9,
          c_90,
          c_91,
          c_92,
          c_93,
          c_94,
          c_95,
          c_96,
          c_97,
          c_98,
          c_99,
          c_300,
          c_301,
          (fun i9 hi9 => by exact F_kf i9 hi9),
          (fun i9 hi9 => by exact F_oc i9 hi9),
          (fun i9 hi9 => by exact F_va i9 hi9),
          (fun i9 hi9 => by exact F_lw i9 hi9),
          (fun i9 hi9 => by exact F_M i9 hi9), hzn, hT⟩
    exact x_iret hx hb hr hlocks hw ⟨rfl, z, zn, hRz, (fun _ _ => rfl)⟩ dX5_told_63
  · omega

abbrev rmX5_about : Room := { frames := 1, cells := 0, slots := 0, locals := 21 }

set_option maxHeartbeats 4000000 in
set_option maxRecDepth 100000 in
theorem k_X5_about_nofile (l : Launch) (D : va_G) (ca : Nat → ClassId) (N : Nat) (ad : Nat → Nat) (B tR tK : Nat) (f : Nat → va_E) (dd : xD N ad B) (hN : 302 ≤ N) (n : Nat → Nat) (g : Nat → Nat → Int32) (z : Nat → Nat → Int32) (zn : Nat) (tb : Nat → Int32) (hR : RepX ca ad n g z zn tb f) (x : Int32) (y : Int32) (ho : x < 0 ∨ nI (n 2) ≤ x) : xMi l yX5_about wsX5_about rmX5_about [.ref (ad 0), .int x, .int y] D ca N ad B tR tK f (fun r u => (-1) = r ∧ ∃ (z1 : Nat → Nat → Int32) (zn1 : Nat), RepX ca ad n g z1 zn1 tb u ∧ ∀ y, 302 ≤ y → u y = f y) := by
  refine x_open (cc := cX5_about) (maxL := 4) (ret := (some .int)) (by decide) rfl (Nat.le_of_ble_eq_true rfl) ?_
  intro p e s m below meth c ls hx hb hml hown hts hr hlocks hnm hB hK hE hw hl
  have hown : s.vm.findClass RX5 = some m.cls := hown
  have hl : lv_has ls 4 [(0, .ref (ad 0)), (1, .int x), (2, .int y)] := hl
  obtain ⟨c_0, c_1, c_2, c_3, c_4, c_5, c_6, c_7, c_8, c_9, c_90, c_91, c_92, c_93, c_94, c_95, c_96, c_97, c_98, c_99, c_300, c_301, F_kf, F_oc, F_va, F_lw, F_M, hzn, hT⟩ := hR
  have b_0 := c_0
  have b_1 := c_1
  have b_2 := c_2
  have b_3 := c_3
  have b_4 := c_4
  have b_5 := c_5
  have b_6 := c_6
  have b_7 := c_7
  have b_8 := c_8
  have b_9 := c_9
  have b_90 := c_90
  have b_91 := c_91
  have b_92 := c_92
  have b_93 := c_93
  have b_94 := c_94
  have b_95 := c_95
  have b_96 := c_96
  have b_97 := c_97
  have b_98 := c_98
  have b_99 := c_99
  have b_300 := c_300
  have b_301 := c_301
  refine lv_aload_n hx hb dX5_about_0 rfl (lv_at hl 0 rfl) ?_
  refine lv_iload_n hx hb dX5_about_1 rfl (lv_at hl 1 rfl) ?_
  have hRk : RepX ca ad n g z zn tb f := ⟨c_0,
        c_1,
        c_2,
        c_3,
        c_4,
        c_5,
        c_6,
        c_7,
        c_8,
        c_9,
        c_90,
        c_91,
        c_92,
        c_93,
        c_94,
        c_95,
        c_96,
        c_97,
        c_98,
        c_99,
        c_300,
        c_301,
        (fun i9 hi9 => by exact F_kf i9 hi9),
        (fun i9 hi9 => by exact F_oc i9 hi9),
        (fun i9 hi9 => by exact F_va i9 hi9),
        (fun i9 hi9 => by exact F_lw i9 hi9),
        (fun i9 hi9 => by exact F_M i9 hi9), hzn, hT⟩
  have hfr : ∀ y, 302 ≤ y → f y = f y := (fun _ _ => rfl)
  refine x_Vi (q := 0) (As := [.int x]) (rest := []) ⟨hx, hb, hml, hown, hts⟩ (k_X5_isFile_no l D ca N ad B tR tK f dd hN n g z zn tb hRk x ho) (cwV 1 hts gX5_about_X5_isFile rfl rfl rfl (by decide +kernel) ⟨Nat.le_of_ble_eq_true rfl, Nat.le_of_ble_eq_true rfl⟩) hK hE hB hw (by omega) c_0 rfl rfl rfl rfl hl.1 (Nat.le_of_ble_eq_true rfl) ⟨Nat.zero_le _, Nat.zero_le _⟩ dX5_about_2 (fun r_2 f_1 H locs hp hw => ?_)
  obtain ⟨er, hp⟩ := hp
  rw [← er]
  rw [← hp] at hw
  refine lv_if_ne (tgt := 10) hx hb dX5_about_5 (by decide) (fun h => False.elim (h (by decide))) (fun _ => ?_)
  refine lv_iconst (v := (-1)) hx hb dX5_about_8 (by decide) ?_
  have hRz : RepX ca ad n g z zn tb f := ⟨c_0,
        c_1,
        c_2,
        c_3,
        c_4,
        c_5,
        c_6,
        c_7,
        c_8,
        c_9,
        c_90,
        c_91,
        c_92,
        c_93,
        c_94,
        c_95,
        c_96,
        c_97,
        c_98,
        c_99,
        c_300,
        c_301,
        (fun i9 hi9 => by exact F_kf i9 hi9),
        (fun i9 hi9 => by exact F_oc i9 hi9),
        (fun i9 hi9 => by exact F_va i9 hi9),
        (fun i9 hi9 => by exact F_lw i9 hi9),
        (fun i9 hi9 => by exact F_M i9 hi9), hzn, hT⟩
  exact x_iret hx hb hr hlocks hw ⟨rfl, z, zn, hRz, (fun _ _ => rfl)⟩ dX5_about_9

set_option maxHeartbeats 4000000 in
set_option maxRecDepth 100000 in
theorem k_X5_about_w0 (l : Launch) (D : va_G) (ca : Nat → ClassId) (N : Nat) (ad : Nat → Nat) (B tR tK : Nat) (f : Nat → va_E) (dd : xD N ad B) (hN : 302 ≤ N) (n : Nat → Nat) (g : Nat → Nat → Int32) (z : Nat → Nat → Int32) (zn : Nat) (tb : Nat → Int32) (hR : RepX ca ad n g z zn tb f) (i : Nat) (h2 : n 2 ≤ 20) (hi : i < n 2) : xMi l yX5_about wsX5_about rmX5_about [.ref (ad 0), .int (nI i), .int (nI 0)] D ca N ad B tR tK f (fun r u => nI (n (10 + i)) = r ∧ ∃ (z1 : Nat → Nat → Int32) (zn1 : Nat), RepX ca ad n g z1 zn1 tb u ∧ ∀ y, 302 ≤ y → u y = f y) := by
  refine x_open (cc := cX5_about) (maxL := 4) (ret := (some .int)) (by decide) rfl (Nat.le_of_ble_eq_true rfl) ?_
  intro p e s m below meth c ls hx hb hml hown hts hr hlocks hnm hB hK hE hw hl
  have hown : s.vm.findClass RX5 = some m.cls := hown
  have hl : lv_has ls 4 [(0, .ref (ad 0)), (1, .int (nI i)), (2, .int (nI 0))] := hl
  obtain ⟨c_0, c_1, c_2, c_3, c_4, c_5, c_6, c_7, c_8, c_9, c_90, c_91, c_92, c_93, c_94, c_95, c_96, c_97, c_98, c_99, c_300, c_301, F_kf, F_oc, F_va, F_lw, F_M, hzn, hT⟩ := hR
  have hin_6 : ∀ w ∈ u_ws RX5 TX5 13, w ∈ wsX5_about := by decide +kernel
  have hf_49 := hts (.fieldLink RX5 49 "FixityRows" "files" "[LFixityRows$KeptFile;") (by decide +kernel)
  have hin_1 : ∀ w ∈ u_ws RX0 TX0 8, w ∈ wsX5_about := by decide +kernel
  have b_0 := c_0
  have b_1 := c_1
  have b_2 := c_2
  have b_3 := c_3
  have b_4 := c_4
  have b_5 := c_5
  have b_6 := c_6
  have b_7 := c_7
  have b_8 := c_8
  have b_9 := c_9
  have b_90 := c_90
  have b_91 := c_91
  have b_92 := c_92
  have b_93 := c_93
  have b_94 := c_94
  have b_95 := c_95
  have b_96 := c_96
  have b_97 := c_97
  have b_98 := c_98
  have b_99 := c_99
  have b_300 := c_300
  have b_301 := c_301
  refine lv_aload_n hx hb dX5_about_0 rfl (lv_at hl 0 rfl) ?_
  refine lv_iload_n hx hb dX5_about_1 rfl (lv_at hl 1 rfl) ?_
  have hRk : RepX ca ad n g z zn tb f := ⟨c_0,
        c_1,
        c_2,
        c_3,
        c_4,
        c_5,
        c_6,
        c_7,
        c_8,
        c_9,
        c_90,
        c_91,
        c_92,
        c_93,
        c_94,
        c_95,
        c_96,
        c_97,
        c_98,
        c_99,
        c_300,
        c_301,
        (fun i9 hi9 => by exact F_kf i9 hi9),
        (fun i9 hi9 => by exact F_oc i9 hi9),
        (fun i9 hi9 => by exact F_va i9 hi9),
        (fun i9 hi9 => by exact F_lw i9 hi9),
        (fun i9 hi9 => by exact F_M i9 hi9), hzn, hT⟩
  have hfr : ∀ y, 302 ≤ y → f y = f y := (fun _ _ => rfl)
  refine x_Vi (q := 0) (As := [.int (nI i)]) (rest := []) ⟨hx, hb, hml, hown, hts⟩ (k_X5_isFile_yes l D ca N ad B tR tK f dd hN n g z zn tb hRk i (by omega) (by omega)) (cwV 1 hts gX5_about_X5_isFile rfl rfl rfl (by decide +kernel) ⟨Nat.le_of_ble_eq_true rfl, Nat.le_of_ble_eq_true rfl⟩) hK hE hB hw (by omega) c_0 rfl rfl rfl rfl hl.1 (Nat.le_of_ble_eq_true rfl) ⟨Nat.zero_le _, Nat.zero_le _⟩ dX5_about_2 (fun r_2 f_1 H locs hp hw => ?_)
  obtain ⟨er, hp⟩ := hp
  rw [← er]
  rw [← hp] at hw
  refine lv_if_ne (tgt := 10) hx hb dX5_about_5 (by decide) (fun _ => ?_) (fun h => absurd h (by decide))
  refine lv_aload_n hx hb dX5_about_10 rfl (lv_at hl 0 rfl) ?_
  refine x_get (ci := 6) (C := RX5) (T := TX5) (n := 13) (ref := RX5) hx hb hts hin_6 hown hK hw 0 (by omega) c_0 rfl 6 (by decide) hf_49 (fun _ h => h) rfl dX5_about_11 ?_
  refine lv_iload_n hx hb dX5_about_14 rfl (lv_at hl 1 rfl) ?_
  refine x_aald (j := i) (a := ad (10 + 4 * i)) hx hb hK hw 9 3 (by omega) c_9 rfl rfl (by omega) (by decide) rfl dX5_about_15 ?_
  refine lv_astore_n (lv' := [(3, .ref (ad (10 + 4 * i))), (0, .ref (ad 0)), (1, .int (nI i)), (2, .int (nI 0))]) hx hb dX5_about_16 rfl hl (by decide) rfl (fun ls hl => ?_)
  refine lv_iload_n hx hb dX5_about_17 rfl (lv_at hl 3 rfl) ?_
  refine lv_tableIn (off := 30) (tgt := 48) hx hb dX5_about_18 (by decide) (by decide) (by decide) (by decide) ?_
  refine lv_aload_n hx hb dX5_about_48 rfl (lv_at hl 0 rfl) ?_
  have c_10_4_i : f (10 + 4 * i) = .inr (1, [.ref (ad (11 + 4 * i)), .ref (ad (13 + 4 * i)), .int (g 7 i), .int (g 8 i), .int (g 9 i), .int (g 10 i), .int (g 11 i), .int (g 12 i)]) := (F_kf i (by omega))
  refine x_getN (ci := 1) (C := RX0) (T := TX0) (n := 8) (ref := RX0) hx hb hts hin_1 hown hK hw (10 + 4 * i) (by omega) c_10_4_i rfl 0 (by decide) (hE.1 (103, "octets", "LFixityRows$Octets;") (by decide)) (fun _ h => h) rfl dX5_about_49 ?_
  have c_11_4_i : f (11 + 4 * i) = .inr (3, [.ref (ad (12 + 4 * i)), .int (nI (n (10 + i)))]) := (F_oc i (by omega))
  refine x_Vi (q := 11 + 4 * i) (As := []) (rest := []) ⟨hx, hb, hml, hown, hts⟩ (k_X2_count l D ca N ad B tR tK f dd (11 + 4 * i) (12 + 4 * i) (n (10 + i)) (by omega) c_11_4_i  ) (cwV 0 hts gX5_about_X2_count rfl rfl rfl (by decide +kernel) ⟨Nat.le_of_ble_eq_true rfl, Nat.le_of_ble_eq_true rfl⟩) hK hE hB hw (by omega) c_11_4_i rfl rfl rfl rfl hl.1 (Nat.le_of_ble_eq_true rfl) ⟨Nat.zero_le _, Nat.zero_le _⟩ dX5_about_52 (fun r_4 f_3 H locs hp hw => ?_)
  obtain ⟨er, eu⟩ := hp
  rw [← er]
  rw [← eu] at hw
  have hRz : RepX ca ad n g z zn tb f := ⟨c_0,
        c_1,
        c_2,
        c_3,
        c_4,
        c_5,
        c_6,
        c_7,
        c_8,
        c_9,
        c_90,
        c_91,
        c_92,
        c_93,
        c_94,
        c_95,
        c_96,
        c_97,
        c_98,
        c_99,
        c_300,
        c_301,
        (fun i9 hi9 => by exact F_kf i9 hi9),
        (fun i9 hi9 => by exact F_oc i9 hi9),
        (fun i9 hi9 => by exact F_va i9 hi9),
        (fun i9 hi9 => by exact F_lw i9 hi9),
        (fun i9 hi9 => by exact F_M i9 hi9), hzn, hT⟩
  exact x_iret hx hb hr hlocks hw ⟨rfl, z, zn, hRz, (fun _ _ => rfl)⟩ dX5_about_55

set_option maxHeartbeats 4000000 in
set_option maxRecDepth 100000 in
theorem k_X5_about_w1 (l : Launch) (D : va_G) (ca : Nat → ClassId) (N : Nat) (ad : Nat → Nat) (B tR tK : Nat) (f : Nat → va_E) (dd : xD N ad B) (hN : 302 ≤ N) (n : Nat → Nat) (g : Nat → Nat → Int32) (z : Nat → Nat → Int32) (zn : Nat) (tb : Nat → Int32) (hR : RepX ca ad n g z zn tb f) (i : Nat) (h2 : n 2 ≤ 20) (hi : i < n 2) : xMi l yX5_about wsX5_about rmX5_about [.ref (ad 0), .int (nI i), .int (nI 1)] D ca N ad B tR tK f (fun r u => g 9 i = r ∧ ∃ (z1 : Nat → Nat → Int32) (zn1 : Nat), RepX ca ad n g z1 zn1 tb u ∧ ∀ y, 302 ≤ y → u y = f y) := by
  refine x_open (cc := cX5_about) (maxL := 4) (ret := (some .int)) (by decide) rfl (Nat.le_of_ble_eq_true rfl) ?_
  intro p e s m below meth c ls hx hb hml hown hts hr hlocks hnm hB hK hE hw hl
  have hown : s.vm.findClass RX5 = some m.cls := hown
  have hl : lv_has ls 4 [(0, .ref (ad 0)), (1, .int (nI i)), (2, .int (nI 1))] := hl
  obtain ⟨c_0, c_1, c_2, c_3, c_4, c_5, c_6, c_7, c_8, c_9, c_90, c_91, c_92, c_93, c_94, c_95, c_96, c_97, c_98, c_99, c_300, c_301, F_kf, F_oc, F_va, F_lw, F_M, hzn, hT⟩ := hR
  have hin_6 : ∀ w ∈ u_ws RX5 TX5 13, w ∈ wsX5_about := by decide +kernel
  have hf_49 := hts (.fieldLink RX5 49 "FixityRows" "files" "[LFixityRows$KeptFile;") (by decide +kernel)
  have hin_1 : ∀ w ∈ u_ws RX0 TX0 8, w ∈ wsX5_about := by decide +kernel
  have b_0 := c_0
  have b_1 := c_1
  have b_2 := c_2
  have b_3 := c_3
  have b_4 := c_4
  have b_5 := c_5
  have b_6 := c_6
  have b_7 := c_7
  have b_8 := c_8
  have b_9 := c_9
  have b_90 := c_90
  have b_91 := c_91
  have b_92 := c_92
  have b_93 := c_93
  have b_94 := c_94
  have b_95 := c_95
  have b_96 := c_96
  have b_97 := c_97
  have b_98 := c_98
  have b_99 := c_99
  have b_300 := c_300
  have b_301 := c_301
  refine lv_aload_n hx hb dX5_about_0 rfl (lv_at hl 0 rfl) ?_
  refine lv_iload_n hx hb dX5_about_1 rfl (lv_at hl 1 rfl) ?_
  have hRk : RepX ca ad n g z zn tb f := ⟨c_0,
        c_1,
        c_2,
        c_3,
        c_4,
        c_5,
        c_6,
        c_7,
        c_8,
        c_9,
        c_90,
        c_91,
        c_92,
        c_93,
        c_94,
        c_95,
        c_96,
        c_97,
        c_98,
        c_99,
        c_300,
        c_301,
        (fun i9 hi9 => by exact F_kf i9 hi9),
        (fun i9 hi9 => by exact F_oc i9 hi9),
        (fun i9 hi9 => by exact F_va i9 hi9),
        (fun i9 hi9 => by exact F_lw i9 hi9),
        (fun i9 hi9 => by exact F_M i9 hi9), hzn, hT⟩
  have hfr : ∀ y, 302 ≤ y → f y = f y := (fun _ _ => rfl)
  refine x_Vi (q := 0) (As := [.int (nI i)]) (rest := []) ⟨hx, hb, hml, hown, hts⟩ (k_X5_isFile_yes l D ca N ad B tR tK f dd hN n g z zn tb hRk i (by omega) (by omega)) (cwV 1 hts gX5_about_X5_isFile rfl rfl rfl (by decide +kernel) ⟨Nat.le_of_ble_eq_true rfl, Nat.le_of_ble_eq_true rfl⟩) hK hE hB hw (by omega) c_0 rfl rfl rfl rfl hl.1 (Nat.le_of_ble_eq_true rfl) ⟨Nat.zero_le _, Nat.zero_le _⟩ dX5_about_2 (fun r_2 f_1 H locs hp hw => ?_)
  obtain ⟨er, hp⟩ := hp
  rw [← er]
  rw [← hp] at hw
  refine lv_if_ne (tgt := 10) hx hb dX5_about_5 (by decide) (fun _ => ?_) (fun h => absurd h (by decide))
  refine lv_aload_n hx hb dX5_about_10 rfl (lv_at hl 0 rfl) ?_
  refine x_get (ci := 6) (C := RX5) (T := TX5) (n := 13) (ref := RX5) hx hb hts hin_6 hown hK hw 0 (by omega) c_0 rfl 6 (by decide) hf_49 (fun _ h => h) rfl dX5_about_11 ?_
  refine lv_iload_n hx hb dX5_about_14 rfl (lv_at hl 1 rfl) ?_
  refine x_aald (j := i) (a := ad (10 + 4 * i)) hx hb hK hw 9 3 (by omega) c_9 rfl rfl (by omega) (by decide) rfl dX5_about_15 ?_
  refine lv_astore_n (lv' := [(3, .ref (ad (10 + 4 * i))), (0, .ref (ad 0)), (1, .int (nI i)), (2, .int (nI 1))]) hx hb dX5_about_16 rfl hl (by decide) rfl (fun ls hl => ?_)
  refine lv_iload_n hx hb dX5_about_17 rfl (lv_at hl 3 rfl) ?_
  refine lv_tableIn (off := 38) (tgt := 56) hx hb dX5_about_18 (by decide) (by decide) (by decide) (by decide) ?_
  refine lv_aload_n hx hb dX5_about_56 rfl (lv_at hl 0 rfl) ?_
  have c_10_4_i : f (10 + 4 * i) = .inr (1, [.ref (ad (11 + 4 * i)), .ref (ad (13 + 4 * i)), .int (g 7 i), .int (g 8 i), .int (g 9 i), .int (g 10 i), .int (g 11 i), .int (g 12 i)]) := (F_kf i (by omega))
  refine x_getN (ci := 1) (C := RX0) (T := TX0) (n := 8) (ref := RX0) hx hb hts hin_1 hown hK hw (10 + 4 * i) (by omega) c_10_4_i rfl 4 (by decide) (hE.1 (173, "fittedDay", "I") (by decide)) (fun _ h => h) rfl dX5_about_57 ?_
  have hRz : RepX ca ad n g z zn tb f := ⟨c_0,
        c_1,
        c_2,
        c_3,
        c_4,
        c_5,
        c_6,
        c_7,
        c_8,
        c_9,
        c_90,
        c_91,
        c_92,
        c_93,
        c_94,
        c_95,
        c_96,
        c_97,
        c_98,
        c_99,
        c_300,
        c_301,
        (fun i9 hi9 => by exact F_kf i9 hi9),
        (fun i9 hi9 => by exact F_oc i9 hi9),
        (fun i9 hi9 => by exact F_va i9 hi9),
        (fun i9 hi9 => by exact F_lw i9 hi9),
        (fun i9 hi9 => by exact F_M i9 hi9), hzn, hT⟩
  exact x_iret hx hb hr hlocks hw ⟨rfl, z, zn, hRz, (fun _ _ => rfl)⟩ dX5_about_60

set_option maxHeartbeats 4000000 in
set_option maxRecDepth 100000 in
theorem k_X5_about_w2 (l : Launch) (D : va_G) (ca : Nat → ClassId) (N : Nat) (ad : Nat → Nat) (B tR tK : Nat) (f : Nat → va_E) (dd : xD N ad B) (hN : 302 ≤ N) (n : Nat → Nat) (g : Nat → Nat → Int32) (z : Nat → Nat → Int32) (zn : Nat) (tb : Nat → Int32) (hR : RepX ca ad n g z zn tb f) (i : Nat) (h2 : n 2 ≤ 20) (hi : i < n 2) : xMi l yX5_about wsX5_about rmX5_about [.ref (ad 0), .int (nI i), .int (nI 2)] D ca N ad B tR tK f (fun r u => g 10 i = r ∧ ∃ (z1 : Nat → Nat → Int32) (zn1 : Nat), RepX ca ad n g z1 zn1 tb u ∧ ∀ y, 302 ≤ y → u y = f y) := by
  refine x_open (cc := cX5_about) (maxL := 4) (ret := (some .int)) (by decide) rfl (Nat.le_of_ble_eq_true rfl) ?_
  intro p e s m below meth c ls hx hb hml hown hts hr hlocks hnm hB hK hE hw hl
  have hown : s.vm.findClass RX5 = some m.cls := hown
  have hl : lv_has ls 4 [(0, .ref (ad 0)), (1, .int (nI i)), (2, .int (nI 2))] := hl
  obtain ⟨c_0, c_1, c_2, c_3, c_4, c_5, c_6, c_7, c_8, c_9, c_90, c_91, c_92, c_93, c_94, c_95, c_96, c_97, c_98, c_99, c_300, c_301, F_kf, F_oc, F_va, F_lw, F_M, hzn, hT⟩ := hR
  have hin_6 : ∀ w ∈ u_ws RX5 TX5 13, w ∈ wsX5_about := by decide +kernel
  have hf_49 := hts (.fieldLink RX5 49 "FixityRows" "files" "[LFixityRows$KeptFile;") (by decide +kernel)
  have hin_1 : ∀ w ∈ u_ws RX0 TX0 8, w ∈ wsX5_about := by decide +kernel
  have b_0 := c_0
  have b_1 := c_1
  have b_2 := c_2
  have b_3 := c_3
  have b_4 := c_4
  have b_5 := c_5
  have b_6 := c_6
  have b_7 := c_7
  have b_8 := c_8
  have b_9 := c_9
  have b_90 := c_90
  have b_91 := c_91
  have b_92 := c_92
  have b_93 := c_93
  have b_94 := c_94
  have b_95 := c_95
  have b_96 := c_96
  have b_97 := c_97
  have b_98 := c_98
  have b_99 := c_99
  have b_300 := c_300
  have b_301 := c_301
  refine lv_aload_n hx hb dX5_about_0 rfl (lv_at hl 0 rfl) ?_
  refine lv_iload_n hx hb dX5_about_1 rfl (lv_at hl 1 rfl) ?_
  have hRk : RepX ca ad n g z zn tb f := ⟨c_0,
        c_1,
        c_2,
        c_3,
        c_4,
        c_5,
        c_6,
        c_7,
        c_8,
        c_9,
        c_90,
        c_91,
        c_92,
        c_93,
        c_94,
        c_95,
        c_96,
        c_97,
        c_98,
        c_99,
        c_300,
        c_301,
        (fun i9 hi9 => by exact F_kf i9 hi9),
        (fun i9 hi9 => by exact F_oc i9 hi9),
        (fun i9 hi9 => by exact F_va i9 hi9),
        (fun i9 hi9 => by exact F_lw i9 hi9),
        (fun i9 hi9 => by exact F_M i9 hi9), hzn, hT⟩
  have hfr : ∀ y, 302 ≤ y → f y = f y := (fun _ _ => rfl)
  refine x_Vi (q := 0) (As := [.int (nI i)]) (rest := []) ⟨hx, hb, hml, hown, hts⟩ (k_X5_isFile_yes l D ca N ad B tR tK f dd hN n g z zn tb hRk i (by omega) (by omega)) (cwV 1 hts gX5_about_X5_isFile rfl rfl rfl (by decide +kernel) ⟨Nat.le_of_ble_eq_true rfl, Nat.le_of_ble_eq_true rfl⟩) hK hE hB hw (by omega) c_0 rfl rfl rfl rfl hl.1 (Nat.le_of_ble_eq_true rfl) ⟨Nat.zero_le _, Nat.zero_le _⟩ dX5_about_2 (fun r_2 f_1 H locs hp hw => ?_)
  obtain ⟨er, hp⟩ := hp
  rw [← er]
  rw [← hp] at hw
  refine lv_if_ne (tgt := 10) hx hb dX5_about_5 (by decide) (fun _ => ?_) (fun h => absurd h (by decide))
  refine lv_aload_n hx hb dX5_about_10 rfl (lv_at hl 0 rfl) ?_
  refine x_get (ci := 6) (C := RX5) (T := TX5) (n := 13) (ref := RX5) hx hb hts hin_6 hown hK hw 0 (by omega) c_0 rfl 6 (by decide) hf_49 (fun _ h => h) rfl dX5_about_11 ?_
  refine lv_iload_n hx hb dX5_about_14 rfl (lv_at hl 1 rfl) ?_
  refine x_aald (j := i) (a := ad (10 + 4 * i)) hx hb hK hw 9 3 (by omega) c_9 rfl rfl (by omega) (by decide) rfl dX5_about_15 ?_
  refine lv_astore_n (lv' := [(3, .ref (ad (10 + 4 * i))), (0, .ref (ad 0)), (1, .int (nI i)), (2, .int (nI 2))]) hx hb dX5_about_16 rfl hl (by decide) rfl (fun ls hl => ?_)
  refine lv_iload_n hx hb dX5_about_17 rfl (lv_at hl 3 rfl) ?_
  refine lv_tableIn (off := 43) (tgt := 61) hx hb dX5_about_18 (by decide) (by decide) (by decide) (by decide) ?_
  refine lv_aload_n hx hb dX5_about_61 rfl (lv_at hl 0 rfl) ?_
  have c_10_4_i : f (10 + 4 * i) = .inr (1, [.ref (ad (11 + 4 * i)), .ref (ad (13 + 4 * i)), .int (g 7 i), .int (g 8 i), .int (g 9 i), .int (g 10 i), .int (g 11 i), .int (g 12 i)]) := (F_kf i (by omega))
  refine x_getN (ci := 1) (C := RX0) (T := TX0) (n := 8) (ref := RX0) hx hb hts hin_1 hown hK hw (10 + 4 * i) (by omega) c_10_4_i rfl 5 (by decide) (hE.1 (176, "nextDay", "I") (by decide)) (fun _ h => h) rfl dX5_about_62 ?_
  have hRz : RepX ca ad n g z zn tb f := ⟨c_0,
        c_1,
        c_2,
        c_3,
        c_4,
        c_5,
        c_6,
        c_7,
        c_8,
        c_9,
        c_90,
        c_91,
        c_92,
        c_93,
        c_94,
        c_95,
        c_96,
        c_97,
        c_98,
        c_99,
        c_300,
        c_301,
        (fun i9 hi9 => by exact F_kf i9 hi9),
        (fun i9 hi9 => by exact F_oc i9 hi9),
        (fun i9 hi9 => by exact F_va i9 hi9),
        (fun i9 hi9 => by exact F_lw i9 hi9),
        (fun i9 hi9 => by exact F_M i9 hi9), hzn, hT⟩
  exact x_iret hx hb hr hlocks hw ⟨rfl, z, zn, hRz, (fun _ _ => rfl)⟩ dX5_about_65

set_option maxHeartbeats 4000000 in
set_option maxRecDepth 100000 in
theorem k_X5_about_w3 (l : Launch) (D : va_G) (ca : Nat → ClassId) (N : Nat) (ad : Nat → Nat) (B tR tK : Nat) (f : Nat → va_E) (dd : xD N ad B) (hN : 302 ≤ N) (n : Nat → Nat) (g : Nat → Nat → Int32) (z : Nat → Nat → Int32) (zn : Nat) (tb : Nat → Int32) (hR : RepX ca ad n g z zn tb f) (i : Nat) (h2 : n 2 ≤ 20) (hi : i < n 2) : xMi l yX5_about wsX5_about rmX5_about [.ref (ad 0), .int (nI i), .int (nI 3)] D ca N ad B tR tK f (fun r u => g 12 i = r ∧ ∃ (z1 : Nat → Nat → Int32) (zn1 : Nat), RepX ca ad n g z1 zn1 tb u ∧ ∀ y, 302 ≤ y → u y = f y) := by
  refine x_open (cc := cX5_about) (maxL := 4) (ret := (some .int)) (by decide) rfl (Nat.le_of_ble_eq_true rfl) ?_
  intro p e s m below meth c ls hx hb hml hown hts hr hlocks hnm hB hK hE hw hl
  have hown : s.vm.findClass RX5 = some m.cls := hown
  have hl : lv_has ls 4 [(0, .ref (ad 0)), (1, .int (nI i)), (2, .int (nI 3))] := hl
  obtain ⟨c_0, c_1, c_2, c_3, c_4, c_5, c_6, c_7, c_8, c_9, c_90, c_91, c_92, c_93, c_94, c_95, c_96, c_97, c_98, c_99, c_300, c_301, F_kf, F_oc, F_va, F_lw, F_M, hzn, hT⟩ := hR
  have hin_6 : ∀ w ∈ u_ws RX5 TX5 13, w ∈ wsX5_about := by decide +kernel
  have hf_49 := hts (.fieldLink RX5 49 "FixityRows" "files" "[LFixityRows$KeptFile;") (by decide +kernel)
  have hin_1 : ∀ w ∈ u_ws RX0 TX0 8, w ∈ wsX5_about := by decide +kernel
  have b_0 := c_0
  have b_1 := c_1
  have b_2 := c_2
  have b_3 := c_3
  have b_4 := c_4
  have b_5 := c_5
  have b_6 := c_6
  have b_7 := c_7
  have b_8 := c_8
  have b_9 := c_9
  have b_90 := c_90
  have b_91 := c_91
  have b_92 := c_92
  have b_93 := c_93
  have b_94 := c_94
  have b_95 := c_95
  have b_96 := c_96
  have b_97 := c_97
  have b_98 := c_98
  have b_99 := c_99
  have b_300 := c_300
  have b_301 := c_301
  refine lv_aload_n hx hb dX5_about_0 rfl (lv_at hl 0 rfl) ?_
  refine lv_iload_n hx hb dX5_about_1 rfl (lv_at hl 1 rfl) ?_
  have hRk : RepX ca ad n g z zn tb f := ⟨c_0,
        c_1,
        c_2,
        c_3,
        c_4,
        c_5,
        c_6,
        c_7,
        c_8,
        c_9,
        c_90,
        c_91,
        c_92,
        c_93,
        c_94,
        c_95,
        c_96,
        c_97,
        c_98,
        c_99,
        c_300,
        c_301,
        (fun i9 hi9 => by exact F_kf i9 hi9),
        (fun i9 hi9 => by exact F_oc i9 hi9),
        (fun i9 hi9 => by exact F_va i9 hi9),
        (fun i9 hi9 => by exact F_lw i9 hi9),
        (fun i9 hi9 => by exact F_M i9 hi9), hzn, hT⟩
  have hfr : ∀ y, 302 ≤ y → f y = f y := (fun _ _ => rfl)
  refine x_Vi (q := 0) (As := [.int (nI i)]) (rest := []) ⟨hx, hb, hml, hown, hts⟩ (k_X5_isFile_yes l D ca N ad B tR tK f dd hN n g z zn tb hRk i (by omega) (by omega)) (cwV 1 hts gX5_about_X5_isFile rfl rfl rfl (by decide +kernel) ⟨Nat.le_of_ble_eq_true rfl, Nat.le_of_ble_eq_true rfl⟩) hK hE hB hw (by omega) c_0 rfl rfl rfl rfl hl.1 (Nat.le_of_ble_eq_true rfl) ⟨Nat.zero_le _, Nat.zero_le _⟩ dX5_about_2 (fun r_2 f_1 H locs hp hw => ?_)
  obtain ⟨er, hp⟩ := hp
  rw [← er]
  rw [← hp] at hw
  refine lv_if_ne (tgt := 10) hx hb dX5_about_5 (by decide) (fun _ => ?_) (fun h => absurd h (by decide))
  refine lv_aload_n hx hb dX5_about_10 rfl (lv_at hl 0 rfl) ?_
  refine x_get (ci := 6) (C := RX5) (T := TX5) (n := 13) (ref := RX5) hx hb hts hin_6 hown hK hw 0 (by omega) c_0 rfl 6 (by decide) hf_49 (fun _ h => h) rfl dX5_about_11 ?_
  refine lv_iload_n hx hb dX5_about_14 rfl (lv_at hl 1 rfl) ?_
  refine x_aald (j := i) (a := ad (10 + 4 * i)) hx hb hK hw 9 3 (by omega) c_9 rfl rfl (by omega) (by decide) rfl dX5_about_15 ?_
  refine lv_astore_n (lv' := [(3, .ref (ad (10 + 4 * i))), (0, .ref (ad 0)), (1, .int (nI i)), (2, .int (nI 3))]) hx hb dX5_about_16 rfl hl (by decide) rfl (fun ls hl => ?_)
  refine lv_iload_n hx hb dX5_about_17 rfl (lv_at hl 3 rfl) ?_
  refine lv_tableIn (off := 48) (tgt := 66) hx hb dX5_about_18 (by decide) (by decide) (by decide) (by decide) ?_
  refine lv_aload_n hx hb dX5_about_66 rfl (lv_at hl 0 rfl) ?_
  have c_10_4_i : f (10 + 4 * i) = .inr (1, [.ref (ad (11 + 4 * i)), .ref (ad (13 + 4 * i)), .int (g 7 i), .int (g 8 i), .int (g 9 i), .int (g 10 i), .int (g 11 i), .int (g 12 i)]) := (F_kf i (by omega))
  refine x_getN (ci := 1) (C := RX0) (T := TX0) (n := 8) (ref := RX0) hx hb hts hin_1 hown hK hw (10 + 4 * i) (by omega) c_10_4_i rfl 7 (by decide) (hE.1 (170, "mendings", "I") (by decide)) (fun _ h => h) rfl dX5_about_67 ?_
  have hRz : RepX ca ad n g z zn tb f := ⟨c_0,
        c_1,
        c_2,
        c_3,
        c_4,
        c_5,
        c_6,
        c_7,
        c_8,
        c_9,
        c_90,
        c_91,
        c_92,
        c_93,
        c_94,
        c_95,
        c_96,
        c_97,
        c_98,
        c_99,
        c_300,
        c_301,
        (fun i9 hi9 => by exact F_kf i9 hi9),
        (fun i9 hi9 => by exact F_oc i9 hi9),
        (fun i9 hi9 => by exact F_va i9 hi9),
        (fun i9 hi9 => by exact F_lw i9 hi9),
        (fun i9 hi9 => by exact F_M i9 hi9), hzn, hT⟩
  exact x_iret hx hb hr hlocks hw ⟨rfl, z, zn, hRz, (fun _ _ => rfl)⟩ dX5_about_70

set_option maxHeartbeats 4000000 in
set_option maxRecDepth 100000 in
theorem k_X5_about_no (l : Launch) (D : va_G) (ca : Nat → ClassId) (N : Nat) (ad : Nat → Nat) (B tR tK : Nat) (f : Nat → va_E) (dd : xD N ad B) (hN : 302 ≤ N) (n : Nat → Nat) (g : Nat → Nat → Int32) (z : Nat → Nat → Int32) (zn : Nat) (tb : Nat → Int32) (hR : RepX ca ad n g z zn tb f) (i : Nat) (y : Int32) (h2 : n 2 ≤ 20) (hi : i < n 2) (ho : y.toInt < 0 ∨ 3 < y.toInt) : xMi l yX5_about wsX5_about rmX5_about [.ref (ad 0), .int (nI i), .int y] D ca N ad B tR tK f (fun r u => (-1) = r ∧ ∃ (z1 : Nat → Nat → Int32) (zn1 : Nat), RepX ca ad n g z1 zn1 tb u ∧ ∀ y, 302 ≤ y → u y = f y) := by
  refine x_open (cc := cX5_about) (maxL := 4) (ret := (some .int)) (by decide) rfl (Nat.le_of_ble_eq_true rfl) ?_
  intro p e s m below meth c ls hx hb hml hown hts hr hlocks hnm hB hK hE hw hl
  have hown : s.vm.findClass RX5 = some m.cls := hown
  have hl : lv_has ls 4 [(0, .ref (ad 0)), (1, .int (nI i)), (2, .int y)] := hl
  obtain ⟨c_0, c_1, c_2, c_3, c_4, c_5, c_6, c_7, c_8, c_9, c_90, c_91, c_92, c_93, c_94, c_95, c_96, c_97, c_98, c_99, c_300, c_301, F_kf, F_oc, F_va, F_lw, F_M, hzn, hT⟩ := hR
  have hin_6 : ∀ w ∈ u_ws RX5 TX5 13, w ∈ wsX5_about := by decide +kernel
  have hf_49 := hts (.fieldLink RX5 49 "FixityRows" "files" "[LFixityRows$KeptFile;") (by decide +kernel)
  have b_0 := c_0
  have b_1 := c_1
  have b_2 := c_2
  have b_3 := c_3
  have b_4 := c_4
  have b_5 := c_5
  have b_6 := c_6
  have b_7 := c_7
  have b_8 := c_8
  have b_9 := c_9
  have b_90 := c_90
  have b_91 := c_91
  have b_92 := c_92
  have b_93 := c_93
  have b_94 := c_94
  have b_95 := c_95
  have b_96 := c_96
  have b_97 := c_97
  have b_98 := c_98
  have b_99 := c_99
  have b_300 := c_300
  have b_301 := c_301
  refine lv_aload_n hx hb dX5_about_0 rfl (lv_at hl 0 rfl) ?_
  refine lv_iload_n hx hb dX5_about_1 rfl (lv_at hl 1 rfl) ?_
  have hRk : RepX ca ad n g z zn tb f := ⟨c_0,
        c_1,
        c_2,
        c_3,
        c_4,
        c_5,
        c_6,
        c_7,
        c_8,
        c_9,
        c_90,
        c_91,
        c_92,
        c_93,
        c_94,
        c_95,
        c_96,
        c_97,
        c_98,
        c_99,
        c_300,
        c_301,
        (fun i9 hi9 => by exact F_kf i9 hi9),
        (fun i9 hi9 => by exact F_oc i9 hi9),
        (fun i9 hi9 => by exact F_va i9 hi9),
        (fun i9 hi9 => by exact F_lw i9 hi9),
        (fun i9 hi9 => by exact F_M i9 hi9), hzn, hT⟩
  have hfr : ∀ y, 302 ≤ y → f y = f y := (fun _ _ => rfl)
  refine x_Vi (q := 0) (As := [.int (nI i)]) (rest := []) ⟨hx, hb, hml, hown, hts⟩ (k_X5_isFile_yes l D ca N ad B tR tK f dd hN n g z zn tb hRk i (by omega) (by omega)) (cwV 1 hts gX5_about_X5_isFile rfl rfl rfl (by decide +kernel) ⟨Nat.le_of_ble_eq_true rfl, Nat.le_of_ble_eq_true rfl⟩) hK hE hB hw (by omega) c_0 rfl rfl rfl rfl hl.1 (Nat.le_of_ble_eq_true rfl) ⟨Nat.zero_le _, Nat.zero_le _⟩ dX5_about_2 (fun r_2 f_1 H locs hp hw => ?_)
  obtain ⟨er, hp⟩ := hp
  rw [← er]
  rw [← hp] at hw
  refine lv_if_ne (tgt := 10) hx hb dX5_about_5 (by decide) (fun _ => ?_) (fun h => absurd h (by decide))
  refine lv_aload_n hx hb dX5_about_10 rfl (lv_at hl 0 rfl) ?_
  refine x_get (ci := 6) (C := RX5) (T := TX5) (n := 13) (ref := RX5) hx hb hts hin_6 hown hK hw 0 (by omega) c_0 rfl 6 (by decide) hf_49 (fun _ h => h) rfl dX5_about_11 ?_
  refine lv_iload_n hx hb dX5_about_14 rfl (lv_at hl 1 rfl) ?_
  refine x_aald (j := i) (a := ad (10 + 4 * i)) hx hb hK hw 9 3 (by omega) c_9 rfl rfl (by omega) (by decide) rfl dX5_about_15 ?_
  refine lv_astore_n (lv' := [(3, .ref (ad (10 + 4 * i))), (0, .ref (ad 0)), (1, .int (nI i)), (2, .int y)]) hx hb dX5_about_16 rfl hl (by decide) rfl (fun ls hl => ?_)
  refine lv_iload_n hx hb dX5_about_17 rfl (lv_at hl 3 rfl) ?_
  refine lv_tableOut (tgt := 71) hx hb dX5_about_18 ho (by decide) ?_
  refine lv_iconst (v := (-1)) hx hb dX5_about_71 (by decide) ?_
  have hRz : RepX ca ad n g z zn tb f := ⟨c_0,
        c_1,
        c_2,
        c_3,
        c_4,
        c_5,
        c_6,
        c_7,
        c_8,
        c_9,
        c_90,
        c_91,
        c_92,
        c_93,
        c_94,
        c_95,
        c_96,
        c_97,
        c_98,
        c_99,
        c_300,
        c_301,
        (fun i9 hi9 => by exact F_kf i9 hi9),
        (fun i9 hi9 => by exact F_oc i9 hi9),
        (fun i9 hi9 => by exact F_va i9 hi9),
        (fun i9 hi9 => by exact F_lw i9 hi9),
        (fun i9 hi9 => by exact F_M i9 hi9), hzn, hT⟩
  exact x_iret hx hb hr hlocks hw ⟨rfl, z, zn, hRz, (fun _ _ => rfl)⟩ dX5_about_72

abbrev rmX5_row : Room := { frames := 2, cells := 0, slots := 0, locals := 42 }

set_option maxHeartbeats 4000000 in
set_option maxRecDepth 100000 in
theorem k_X5_row_none (l : Launch) (D : va_G) (ca : Nat → ClassId) (N : Nat) (ad : Nat → Nat) (B tR tK : Nat) (f : Nat → va_E) (dd : xD N ad B) (hN : 302 ≤ N) (n : Nat → Nat) (g : Nat → Nat → Int32) (z : Nat → Nat → Int32) (zn : Nat) (tb : Nat → Int32) (hR : RepX ca ad n g z zn tb f) (x : Int32) (y : Int32) (ho : x < 0 ∨ nI (n 5) ≤ x) : xMi l yX5_row wsX5_row rmX5_row [.ref (ad 0), .int x, .int y] D ca N ad B tR tK f (fun r u => (-1) = r ∧ ∃ (z1 : Nat → Nat → Int32) (zn1 : Nat), RepX ca ad n g z1 zn1 tb u ∧ ∀ y, 302 ≤ y → u y = f y) := by
  refine x_open (cc := cX5_row) (maxL := 3) (ret := (some .int)) (by decide) rfl (Nat.le_of_ble_eq_true rfl) ?_
  intro p e s m below meth c ls hx hb hml hown hts hr hlocks hnm hB hK hE hw hl
  have hown : s.vm.findClass RX5 = some m.cls := hown
  have hl : lv_has ls 3 [(0, .ref (ad 0)), (1, .int x), (2, .int y)] := hl
  obtain ⟨c_0, c_1, c_2, c_3, c_4, c_5, c_6, c_7, c_8, c_9, c_90, c_91, c_92, c_93, c_94, c_95, c_96, c_97, c_98, c_99, c_300, c_301, F_kf, F_oc, F_va, F_lw, F_M, hzn, hT⟩ := hR
  have hin_6 : ∀ w ∈ u_ws RX5 TX5 13, w ∈ wsX5_row := by decide +kernel
  have hf_57 := hts (.fieldLink RX5 57 "FixityRows" "rows" "LFixityRows$RowChain;") (by decide +kernel)
  have b_0 := c_0
  have b_1 := c_1
  have b_2 := c_2
  have b_3 := c_3
  have b_4 := c_4
  have b_5 := c_5
  have b_6 := c_6
  have b_7 := c_7
  have b_8 := c_8
  have b_9 := c_9
  have b_90 := c_90
  have b_91 := c_91
  have b_92 := c_92
  have b_93 := c_93
  have b_94 := c_94
  have b_95 := c_95
  have b_96 := c_96
  have b_97 := c_97
  have b_98 := c_98
  have b_99 := c_99
  have b_300 := c_300
  have b_301 := c_301
  refine lv_aload_n hx hb dX5_row_0 rfl (lv_at hl 0 rfl) ?_
  refine x_get (ci := 6) (C := RX5) (T := TX5) (n := 13) (ref := RX5) hx hb hts hin_6 hown hK hw 0 (by omega) c_0 rfl 8 (by decide) hf_57 (fun _ h => h) rfl dX5_row_1 ?_
  refine lv_iload_n hx hb dX5_row_4 rfl (lv_at hl 1 rfl) ?_
  refine x_Vi (q := 90) (As := [.int x]) (rest := []) ⟨hx, hb, hml, hown, hts⟩ (k_X3_has_out l D ca N ad B tR tK f dd (n 5) x c_90  (by omega) ho) (cwV 1 hts gX5_row_X3_has rfl rfl rfl (by decide +kernel) ⟨Nat.le_of_ble_eq_true rfl, Nat.le_of_ble_eq_true rfl⟩) hK hE hB hw (by omega) c_90 rfl rfl rfl rfl hl.1 (Nat.le_of_ble_eq_true rfl) ⟨Nat.zero_le _, Nat.zero_le _⟩ dX5_row_5 (fun r_2 f_1 H locs hp hw => ?_)
  obtain ⟨er, eu⟩ := hp
  rw [← er]
  rw [← eu] at hw
  refine lv_if_ne (tgt := 13) hx hb dX5_row_8 (by decide) (fun h => False.elim (h (by decide))) (fun _ => ?_)
  refine lv_iconst (v := (-1)) hx hb dX5_row_11 (by decide) ?_
  have hRz : RepX ca ad n g z zn tb f := ⟨c_0,
        c_1,
        c_2,
        c_3,
        c_4,
        c_5,
        c_6,
        c_7,
        c_8,
        c_9,
        c_90,
        c_91,
        c_92,
        c_93,
        c_94,
        c_95,
        c_96,
        c_97,
        c_98,
        c_99,
        c_300,
        c_301,
        (fun i9 hi9 => by exact F_kf i9 hi9),
        (fun i9 hi9 => by exact F_oc i9 hi9),
        (fun i9 hi9 => by exact F_va i9 hi9),
        (fun i9 hi9 => by exact F_lw i9 hi9),
        (fun i9 hi9 => by exact F_M i9 hi9), hzn, hT⟩
  exact x_iret hx hb hr hlocks hw ⟨rfl, z, zn, hRz, (fun _ _ => rfl)⟩ dX5_row_12

set_option maxHeartbeats 4000000 in
set_option maxRecDepth 100000 in
theorem k_X5_row_w0 (l : Launch) (D : va_G) (ca : Nat → ClassId) (N : Nat) (ad : Nat → Nat) (B tR tK : Nat) (f : Nat → va_E) (dd : xD N ad B) (hN : 302 ≤ N) (n : Nat → Nat) (g : Nat → Nat → Int32) (z : Nat → Nat → Int32) (zn : Nat) (tb : Nat → Int32) (hR : RepX ca ad n g z zn tb f) (i : Nat) (h5 : n 5 ≤ 200) (hi : i < n 5) : xMi l yX5_row wsX5_row rmX5_row [.ref (ad 0), .int (nI i), .int (nI 0)] D ca N ad B tR tK f (fun r u => g 4 i = r ∧ ∃ (z1 : Nat → Nat → Int32) (zn1 : Nat), RepX ca ad n g z1 zn1 tb u ∧ ∀ y, 302 ≤ y → u y = f y) := by
  refine x_open (cc := cX5_row) (maxL := 3) (ret := (some .int)) (by decide) rfl (Nat.le_of_ble_eq_true rfl) ?_
  intro p e s m below meth c ls hx hb hml hown hts hr hlocks hnm hB hK hE hw hl
  have hown : s.vm.findClass RX5 = some m.cls := hown
  have hl : lv_has ls 3 [(0, .ref (ad 0)), (1, .int (nI i)), (2, .int (nI 0))] := hl
  obtain ⟨c_0, c_1, c_2, c_3, c_4, c_5, c_6, c_7, c_8, c_9, c_90, c_91, c_92, c_93, c_94, c_95, c_96, c_97, c_98, c_99, c_300, c_301, F_kf, F_oc, F_va, F_lw, F_M, hzn, hT⟩ := hR
  have hin_6 : ∀ w ∈ u_ws RX5 TX5 13, w ∈ wsX5_row := by decide +kernel
  have hf_57 := hts (.fieldLink RX5 57 "FixityRows" "rows" "LFixityRows$RowChain;") (by decide +kernel)
  have b_0 := c_0
  have b_1 := c_1
  have b_2 := c_2
  have b_3 := c_3
  have b_4 := c_4
  have b_5 := c_5
  have b_6 := c_6
  have b_7 := c_7
  have b_8 := c_8
  have b_9 := c_9
  have b_90 := c_90
  have b_91 := c_91
  have b_92 := c_92
  have b_93 := c_93
  have b_94 := c_94
  have b_95 := c_95
  have b_96 := c_96
  have b_97 := c_97
  have b_98 := c_98
  have b_99 := c_99
  have b_300 := c_300
  have b_301 := c_301
  refine lv_aload_n hx hb dX5_row_0 rfl (lv_at hl 0 rfl) ?_
  refine x_get (ci := 6) (C := RX5) (T := TX5) (n := 13) (ref := RX5) hx hb hts hin_6 hown hK hw 0 (by omega) c_0 rfl 8 (by decide) hf_57 (fun _ h => h) rfl dX5_row_1 ?_
  refine lv_iload_n hx hb dX5_row_4 rfl (lv_at hl 1 rfl) ?_
  refine x_Vi (q := 90) (As := [.int (nI i)]) (rest := []) ⟨hx, hb, hml, hown, hts⟩ (k_X3_has_in l D ca N ad B tR tK f dd (n 5) i c_90  (by omega) (by omega) (by omega)) (cwV 1 hts gX5_row_X3_has rfl rfl rfl (by decide +kernel) ⟨Nat.le_of_ble_eq_true rfl, Nat.le_of_ble_eq_true rfl⟩) hK hE hB hw (by omega) c_90 rfl rfl rfl rfl hl.1 (Nat.le_of_ble_eq_true rfl) ⟨Nat.zero_le _, Nat.zero_le _⟩ dX5_row_5 (fun r_2 f_1 H locs hp hw => ?_)
  obtain ⟨er, eu⟩ := hp
  rw [← er]
  rw [← eu] at hw
  refine lv_if_ne (tgt := 13) hx hb dX5_row_8 (by decide) (fun _ => ?_) (fun h => absurd h (by decide))
  refine lv_iload_n hx hb dX5_row_13 rfl (lv_at hl 2 rfl) ?_
  refine lv_tableIn (off := 30) (tgt := 44) hx hb dX5_row_14 (by decide) (by decide) (by decide) (by decide) ?_
  refine lv_aload_n hx hb dX5_row_44 rfl (lv_at hl 0 rfl) ?_
  refine x_get (ci := 6) (C := RX5) (T := TX5) (n := 13) (ref := RX5) hx hb hts hin_6 hown hK hw 0 (by omega) c_0 rfl 8 (by decide) hf_57 (fun _ h => h) rfl dX5_row_45 ?_
  refine lv_iload_n hx hb dX5_row_48 rfl (lv_at hl 1 rfl) ?_
  refine x_Vi (q := 90) (As := [.int (nI i)]) (rest := []) ⟨hx, hb, hml, hown, hts⟩ (k_X3_kindOf_in l D ca N ad B tR tK f dd (n 5) i (g 4) c_90 c_96  (by omega) (by omega) (by omega)) (cwV 1 hts gX5_row_X3_kindOf rfl rfl rfl (by decide +kernel) ⟨Nat.le_of_ble_eq_true rfl, Nat.le_of_ble_eq_true rfl⟩) hK hE hB hw (by omega) c_90 rfl rfl rfl rfl hl.1 (Nat.le_of_ble_eq_true rfl) ⟨Nat.zero_le _, Nat.zero_le _⟩ dX5_row_49 (fun r_4 f_3 H locs hp hw => ?_)
  obtain ⟨er, eu⟩ := hp
  rw [← er]
  rw [← eu] at hw
  have hRz : RepX ca ad n g z zn tb f := ⟨c_0,
        c_1,
        c_2,
        c_3,
        c_4,
        c_5,
        c_6,
        c_7,
        c_8,
        c_9,
        c_90,
        c_91,
        c_92,
        c_93,
        c_94,
        c_95,
        c_96,
        c_97,
        c_98,
        c_99,
        c_300,
        c_301,
        (fun i9 hi9 => by exact F_kf i9 hi9),
        (fun i9 hi9 => by exact F_oc i9 hi9),
        (fun i9 hi9 => by exact F_va i9 hi9),
        (fun i9 hi9 => by exact F_lw i9 hi9),
        (fun i9 hi9 => by exact F_M i9 hi9), hzn, hT⟩
  exact x_iret hx hb hr hlocks hw ⟨rfl, z, zn, hRz, (fun _ _ => rfl)⟩ dX5_row_52

set_option maxHeartbeats 4000000 in
set_option maxRecDepth 100000 in
theorem k_X5_row_w1 (l : Launch) (D : va_G) (ca : Nat → ClassId) (N : Nat) (ad : Nat → Nat) (B tR tK : Nat) (f : Nat → va_E) (dd : xD N ad B) (hN : 302 ≤ N) (n : Nat → Nat) (g : Nat → Nat → Int32) (z : Nat → Nat → Int32) (zn : Nat) (tb : Nat → Int32) (hR : RepX ca ad n g z zn tb f) (i : Nat) (h5 : n 5 ≤ 200) (hi : i < n 5) : xMi l yX5_row wsX5_row rmX5_row [.ref (ad 0), .int (nI i), .int (nI 1)] D ca N ad B tR tK f (fun r u => g 5 i = r ∧ ∃ (z1 : Nat → Nat → Int32) (zn1 : Nat), RepX ca ad n g z1 zn1 tb u ∧ ∀ y, 302 ≤ y → u y = f y) := by
  refine x_open (cc := cX5_row) (maxL := 3) (ret := (some .int)) (by decide) rfl (Nat.le_of_ble_eq_true rfl) ?_
  intro p e s m below meth c ls hx hb hml hown hts hr hlocks hnm hB hK hE hw hl
  have hown : s.vm.findClass RX5 = some m.cls := hown
  have hl : lv_has ls 3 [(0, .ref (ad 0)), (1, .int (nI i)), (2, .int (nI 1))] := hl
  obtain ⟨c_0, c_1, c_2, c_3, c_4, c_5, c_6, c_7, c_8, c_9, c_90, c_91, c_92, c_93, c_94, c_95, c_96, c_97, c_98, c_99, c_300, c_301, F_kf, F_oc, F_va, F_lw, F_M, hzn, hT⟩ := hR
  have hin_6 : ∀ w ∈ u_ws RX5 TX5 13, w ∈ wsX5_row := by decide +kernel
  have hf_57 := hts (.fieldLink RX5 57 "FixityRows" "rows" "LFixityRows$RowChain;") (by decide +kernel)
  have b_0 := c_0
  have b_1 := c_1
  have b_2 := c_2
  have b_3 := c_3
  have b_4 := c_4
  have b_5 := c_5
  have b_6 := c_6
  have b_7 := c_7
  have b_8 := c_8
  have b_9 := c_9
  have b_90 := c_90
  have b_91 := c_91
  have b_92 := c_92
  have b_93 := c_93
  have b_94 := c_94
  have b_95 := c_95
  have b_96 := c_96
  have b_97 := c_97
  have b_98 := c_98
  have b_99 := c_99
  have b_300 := c_300
  have b_301 := c_301
  refine lv_aload_n hx hb dX5_row_0 rfl (lv_at hl 0 rfl) ?_
  refine x_get (ci := 6) (C := RX5) (T := TX5) (n := 13) (ref := RX5) hx hb hts hin_6 hown hK hw 0 (by omega) c_0 rfl 8 (by decide) hf_57 (fun _ h => h) rfl dX5_row_1 ?_
  refine lv_iload_n hx hb dX5_row_4 rfl (lv_at hl 1 rfl) ?_
  refine x_Vi (q := 90) (As := [.int (nI i)]) (rest := []) ⟨hx, hb, hml, hown, hts⟩ (k_X3_has_in l D ca N ad B tR tK f dd (n 5) i c_90  (by omega) (by omega) (by omega)) (cwV 1 hts gX5_row_X3_has rfl rfl rfl (by decide +kernel) ⟨Nat.le_of_ble_eq_true rfl, Nat.le_of_ble_eq_true rfl⟩) hK hE hB hw (by omega) c_90 rfl rfl rfl rfl hl.1 (Nat.le_of_ble_eq_true rfl) ⟨Nat.zero_le _, Nat.zero_le _⟩ dX5_row_5 (fun r_2 f_1 H locs hp hw => ?_)
  obtain ⟨er, eu⟩ := hp
  rw [← er]
  rw [← eu] at hw
  refine lv_if_ne (tgt := 13) hx hb dX5_row_8 (by decide) (fun _ => ?_) (fun h => absurd h (by decide))
  refine lv_iload_n hx hb dX5_row_13 rfl (lv_at hl 2 rfl) ?_
  refine lv_tableIn (off := 39) (tgt := 53) hx hb dX5_row_14 (by decide) (by decide) (by decide) (by decide) ?_
  refine lv_aload_n hx hb dX5_row_53 rfl (lv_at hl 0 rfl) ?_
  refine x_get (ci := 6) (C := RX5) (T := TX5) (n := 13) (ref := RX5) hx hb hts hin_6 hown hK hw 0 (by omega) c_0 rfl 8 (by decide) hf_57 (fun _ h => h) rfl dX5_row_54 ?_
  refine lv_iload_n hx hb dX5_row_57 rfl (lv_at hl 1 rfl) ?_
  refine x_Vi (q := 90) (As := [.int (nI i)]) (rest := []) ⟨hx, hb, hml, hown, hts⟩ (k_X3_fileOf_in l D ca N ad B tR tK f dd (n 5) i (g 5) c_90 c_97  (by omega) (by omega) (by omega)) (cwV 1 hts gX5_row_X3_fileOf rfl rfl rfl (by decide +kernel) ⟨Nat.le_of_ble_eq_true rfl, Nat.le_of_ble_eq_true rfl⟩) hK hE hB hw (by omega) c_90 rfl rfl rfl rfl hl.1 (Nat.le_of_ble_eq_true rfl) ⟨Nat.zero_le _, Nat.zero_le _⟩ dX5_row_58 (fun r_4 f_3 H locs hp hw => ?_)
  obtain ⟨er, eu⟩ := hp
  rw [← er]
  rw [← eu] at hw
  have hRz : RepX ca ad n g z zn tb f := ⟨c_0,
        c_1,
        c_2,
        c_3,
        c_4,
        c_5,
        c_6,
        c_7,
        c_8,
        c_9,
        c_90,
        c_91,
        c_92,
        c_93,
        c_94,
        c_95,
        c_96,
        c_97,
        c_98,
        c_99,
        c_300,
        c_301,
        (fun i9 hi9 => by exact F_kf i9 hi9),
        (fun i9 hi9 => by exact F_oc i9 hi9),
        (fun i9 hi9 => by exact F_va i9 hi9),
        (fun i9 hi9 => by exact F_lw i9 hi9),
        (fun i9 hi9 => by exact F_M i9 hi9), hzn, hT⟩
  exact x_iret hx hb hr hlocks hw ⟨rfl, z, zn, hRz, (fun _ _ => rfl)⟩ dX5_row_61

set_option maxHeartbeats 4000000 in
set_option maxRecDepth 100000 in
theorem k_X5_row_w2 (l : Launch) (D : va_G) (ca : Nat → ClassId) (N : Nat) (ad : Nat → Nat) (B tR tK : Nat) (f : Nat → va_E) (dd : xD N ad B) (hN : 302 ≤ N) (n : Nat → Nat) (g : Nat → Nat → Int32) (z : Nat → Nat → Int32) (zn : Nat) (tb : Nat → Int32) (hR : RepX ca ad n g z zn tb f) (i : Nat) (h5 : n 5 ≤ 200) (hi : i < n 5) : xMi l yX5_row wsX5_row rmX5_row [.ref (ad 0), .int (nI i), .int (nI 2)] D ca N ad B tR tK f (fun r u => g 6 i = r ∧ ∃ (z1 : Nat → Nat → Int32) (zn1 : Nat), RepX ca ad n g z1 zn1 tb u ∧ ∀ y, 302 ≤ y → u y = f y) := by
  refine x_open (cc := cX5_row) (maxL := 3) (ret := (some .int)) (by decide) rfl (Nat.le_of_ble_eq_true rfl) ?_
  intro p e s m below meth c ls hx hb hml hown hts hr hlocks hnm hB hK hE hw hl
  have hown : s.vm.findClass RX5 = some m.cls := hown
  have hl : lv_has ls 3 [(0, .ref (ad 0)), (1, .int (nI i)), (2, .int (nI 2))] := hl
  obtain ⟨c_0, c_1, c_2, c_3, c_4, c_5, c_6, c_7, c_8, c_9, c_90, c_91, c_92, c_93, c_94, c_95, c_96, c_97, c_98, c_99, c_300, c_301, F_kf, F_oc, F_va, F_lw, F_M, hzn, hT⟩ := hR
  have hin_6 : ∀ w ∈ u_ws RX5 TX5 13, w ∈ wsX5_row := by decide +kernel
  have hf_57 := hts (.fieldLink RX5 57 "FixityRows" "rows" "LFixityRows$RowChain;") (by decide +kernel)
  have b_0 := c_0
  have b_1 := c_1
  have b_2 := c_2
  have b_3 := c_3
  have b_4 := c_4
  have b_5 := c_5
  have b_6 := c_6
  have b_7 := c_7
  have b_8 := c_8
  have b_9 := c_9
  have b_90 := c_90
  have b_91 := c_91
  have b_92 := c_92
  have b_93 := c_93
  have b_94 := c_94
  have b_95 := c_95
  have b_96 := c_96
  have b_97 := c_97
  have b_98 := c_98
  have b_99 := c_99
  have b_300 := c_300
  have b_301 := c_301
  refine lv_aload_n hx hb dX5_row_0 rfl (lv_at hl 0 rfl) ?_
  refine x_get (ci := 6) (C := RX5) (T := TX5) (n := 13) (ref := RX5) hx hb hts hin_6 hown hK hw 0 (by omega) c_0 rfl 8 (by decide) hf_57 (fun _ h => h) rfl dX5_row_1 ?_
  refine lv_iload_n hx hb dX5_row_4 rfl (lv_at hl 1 rfl) ?_
  refine x_Vi (q := 90) (As := [.int (nI i)]) (rest := []) ⟨hx, hb, hml, hown, hts⟩ (k_X3_has_in l D ca N ad B tR tK f dd (n 5) i c_90  (by omega) (by omega) (by omega)) (cwV 1 hts gX5_row_X3_has rfl rfl rfl (by decide +kernel) ⟨Nat.le_of_ble_eq_true rfl, Nat.le_of_ble_eq_true rfl⟩) hK hE hB hw (by omega) c_90 rfl rfl rfl rfl hl.1 (Nat.le_of_ble_eq_true rfl) ⟨Nat.zero_le _, Nat.zero_le _⟩ dX5_row_5 (fun r_2 f_1 H locs hp hw => ?_)
  obtain ⟨er, eu⟩ := hp
  rw [← er]
  rw [← eu] at hw
  refine lv_if_ne (tgt := 13) hx hb dX5_row_8 (by decide) (fun _ => ?_) (fun h => absurd h (by decide))
  refine lv_iload_n hx hb dX5_row_13 rfl (lv_at hl 2 rfl) ?_
  refine lv_tableIn (off := 48) (tgt := 62) hx hb dX5_row_14 (by decide) (by decide) (by decide) (by decide) ?_
  refine lv_aload_n hx hb dX5_row_62 rfl (lv_at hl 0 rfl) ?_
  refine x_get (ci := 6) (C := RX5) (T := TX5) (n := 13) (ref := RX5) hx hb hts hin_6 hown hK hw 0 (by omega) c_0 rfl 8 (by decide) hf_57 (fun _ h => h) rfl dX5_row_63 ?_
  refine lv_iload_n hx hb dX5_row_66 rfl (lv_at hl 1 rfl) ?_
  refine x_Vi (q := 90) (As := [.int (nI i)]) (rest := []) ⟨hx, hb, hml, hown, hts⟩ (k_X3_dayOf_in l D ca N ad B tR tK f dd (n 5) i (g 6) c_90 c_98  (by omega) (by omega) (by omega)) (cwV 1 hts gX5_row_X3_dayOf rfl rfl rfl (by decide +kernel) ⟨Nat.le_of_ble_eq_true rfl, Nat.le_of_ble_eq_true rfl⟩) hK hE hB hw (by omega) c_90 rfl rfl rfl rfl hl.1 (Nat.le_of_ble_eq_true rfl) ⟨Nat.zero_le _, Nat.zero_le _⟩ dX5_row_67 (fun r_4 f_3 H locs hp hw => ?_)
  obtain ⟨er, eu⟩ := hp
  rw [← er]
  rw [← eu] at hw
  have hRz : RepX ca ad n g z zn tb f := ⟨c_0,
        c_1,
        c_2,
        c_3,
        c_4,
        c_5,
        c_6,
        c_7,
        c_8,
        c_9,
        c_90,
        c_91,
        c_92,
        c_93,
        c_94,
        c_95,
        c_96,
        c_97,
        c_98,
        c_99,
        c_300,
        c_301,
        (fun i9 hi9 => by exact F_kf i9 hi9),
        (fun i9 hi9 => by exact F_oc i9 hi9),
        (fun i9 hi9 => by exact F_va i9 hi9),
        (fun i9 hi9 => by exact F_lw i9 hi9),
        (fun i9 hi9 => by exact F_M i9 hi9), hzn, hT⟩
  exact x_iret hx hb hr hlocks hw ⟨rfl, z, zn, hRz, (fun _ _ => rfl)⟩ dX5_row_70

set_option maxHeartbeats 4000000 in
set_option maxRecDepth 100000 in
theorem k_X5_row_w3 (l : Launch) (D : va_G) (ca : Nat → ClassId) (N : Nat) (ad : Nat → Nat) (B tR tK : Nat) (f : Nat → va_E) (dd : xD N ad B) (hN : 302 ≤ N) (n : Nat → Nat) (g : Nat → Nat → Int32) (z : Nat → Nat → Int32) (zn : Nat) (tb : Nat → Int32) (hR : RepX ca ad n g z zn tb f) (i : Nat) (h5 : n 5 ≤ 200) (hi : i < n 5) : xMi l yX5_row wsX5_row rmX5_row [.ref (ad 0), .int (nI i), .int (nI 3)] D ca N ad B tR tK f (fun r u => g (1000 + i) 0 = r ∧ ∃ (z1 : Nat → Nat → Int32) (zn1 : Nat), RepX ca ad n g z1 zn1 tb u ∧ ∀ y, 302 ≤ y → u y = f y) := by
  refine x_open (cc := cX5_row) (maxL := 3) (ret := (some .int)) (by decide) rfl (Nat.le_of_ble_eq_true rfl) ?_
  intro p e s m below meth c ls hx hb hml hown hts hr hlocks hnm hB hK hE hw hl
  have hown : s.vm.findClass RX5 = some m.cls := hown
  have hl : lv_has ls 3 [(0, .ref (ad 0)), (1, .int (nI i)), (2, .int (nI 3))] := hl
  obtain ⟨c_0, c_1, c_2, c_3, c_4, c_5, c_6, c_7, c_8, c_9, c_90, c_91, c_92, c_93, c_94, c_95, c_96, c_97, c_98, c_99, c_300, c_301, F_kf, F_oc, F_va, F_lw, F_M, hzn, hT⟩ := hR
  have hin_6 : ∀ w ∈ u_ws RX5 TX5 13, w ∈ wsX5_row := by decide +kernel
  have hf_57 := hts (.fieldLink RX5 57 "FixityRows" "rows" "LFixityRows$RowChain;") (by decide +kernel)
  have b_0 := c_0
  have b_1 := c_1
  have b_2 := c_2
  have b_3 := c_3
  have b_4 := c_4
  have b_5 := c_5
  have b_6 := c_6
  have b_7 := c_7
  have b_8 := c_8
  have b_9 := c_9
  have b_90 := c_90
  have b_91 := c_91
  have b_92 := c_92
  have b_93 := c_93
  have b_94 := c_94
  have b_95 := c_95
  have b_96 := c_96
  have b_97 := c_97
  have b_98 := c_98
  have b_99 := c_99
  have b_300 := c_300
  have b_301 := c_301
  refine lv_aload_n hx hb dX5_row_0 rfl (lv_at hl 0 rfl) ?_
  refine x_get (ci := 6) (C := RX5) (T := TX5) (n := 13) (ref := RX5) hx hb hts hin_6 hown hK hw 0 (by omega) c_0 rfl 8 (by decide) hf_57 (fun _ h => h) rfl dX5_row_1 ?_
  refine lv_iload_n hx hb dX5_row_4 rfl (lv_at hl 1 rfl) ?_
  refine x_Vi (q := 90) (As := [.int (nI i)]) (rest := []) ⟨hx, hb, hml, hown, hts⟩ (k_X3_has_in l D ca N ad B tR tK f dd (n 5) i c_90  (by omega) (by omega) (by omega)) (cwV 1 hts gX5_row_X3_has rfl rfl rfl (by decide +kernel) ⟨Nat.le_of_ble_eq_true rfl, Nat.le_of_ble_eq_true rfl⟩) hK hE hB hw (by omega) c_90 rfl rfl rfl rfl hl.1 (Nat.le_of_ble_eq_true rfl) ⟨Nat.zero_le _, Nat.zero_le _⟩ dX5_row_5 (fun r_2 f_1 H locs hp hw => ?_)
  obtain ⟨er, eu⟩ := hp
  rw [← er]
  rw [← eu] at hw
  refine lv_if_ne (tgt := 13) hx hb dX5_row_8 (by decide) (fun _ => ?_) (fun h => absurd h (by decide))
  refine lv_iload_n hx hb dX5_row_13 rfl (lv_at hl 2 rfl) ?_
  refine lv_tableIn (off := 57) (tgt := 71) hx hb dX5_row_14 (by decide) (by decide) (by decide) (by decide) ?_
  refine lv_aload_n hx hb dX5_row_71 rfl (lv_at hl 0 rfl) ?_
  refine x_get (ci := 6) (C := RX5) (T := TX5) (n := 13) (ref := RX5) hx hb hts hin_6 hown hK hw 0 (by omega) c_0 rfl 8 (by decide) hf_57 (fun _ h => h) rfl dX5_row_72 ?_
  refine lv_iload_n hx hb dX5_row_75 rfl (lv_at hl 1 rfl) ?_
  refine x_Vi (q := 90) (As := [.int (nI i)]) (rest := []) ⟨hx, hb, hml, hown, hts⟩ (k_X3_firstWordOf_in l D ca N ad B tR tK f dd (n 5) i (fun i => g (1000 + i)) c_90 c_99 F_M (by omega) (by omega) (by omega)) (cwV 1 hts gX5_row_X3_firstWordOf rfl rfl rfl (by decide +kernel) ⟨Nat.le_of_ble_eq_true rfl, Nat.le_of_ble_eq_true rfl⟩) hK hE hB hw (by omega) c_90 rfl rfl rfl rfl hl.1 (Nat.le_of_ble_eq_true rfl) ⟨Nat.zero_le _, Nat.zero_le _⟩ dX5_row_76 (fun r_4 f_3 H locs hp hw => ?_)
  obtain ⟨er, eu⟩ := hp
  rw [← er]
  rw [← eu] at hw
  have hRz : RepX ca ad n g z zn tb f := ⟨c_0,
        c_1,
        c_2,
        c_3,
        c_4,
        c_5,
        c_6,
        c_7,
        c_8,
        c_9,
        c_90,
        c_91,
        c_92,
        c_93,
        c_94,
        c_95,
        c_96,
        c_97,
        c_98,
        c_99,
        c_300,
        c_301,
        (fun i9 hi9 => by exact F_kf i9 hi9),
        (fun i9 hi9 => by exact F_oc i9 hi9),
        (fun i9 hi9 => by exact F_va i9 hi9),
        (fun i9 hi9 => by exact F_lw i9 hi9),
        (fun i9 hi9 => by exact F_M i9 hi9), hzn, hT⟩
  exact x_iret hx hb hr hlocks hw ⟨rfl, z, zn, hRz, (fun _ _ => rfl)⟩ dX5_row_79

set_option maxHeartbeats 4000000 in
set_option maxRecDepth 100000 in
theorem k_X5_row_no (l : Launch) (D : va_G) (ca : Nat → ClassId) (N : Nat) (ad : Nat → Nat) (B tR tK : Nat) (f : Nat → va_E) (dd : xD N ad B) (hN : 302 ≤ N) (n : Nat → Nat) (g : Nat → Nat → Int32) (z : Nat → Nat → Int32) (zn : Nat) (tb : Nat → Int32) (hR : RepX ca ad n g z zn tb f) (i : Nat) (y : Int32) (h5 : n 5 ≤ 200) (hi : i < n 5) (ho : y.toInt < 0 ∨ 3 < y.toInt) : xMi l yX5_row wsX5_row rmX5_row [.ref (ad 0), .int (nI i), .int y] D ca N ad B tR tK f (fun r u => (-1) = r ∧ ∃ (z1 : Nat → Nat → Int32) (zn1 : Nat), RepX ca ad n g z1 zn1 tb u ∧ ∀ y, 302 ≤ y → u y = f y) := by
  refine x_open (cc := cX5_row) (maxL := 3) (ret := (some .int)) (by decide) rfl (Nat.le_of_ble_eq_true rfl) ?_
  intro p e s m below meth c ls hx hb hml hown hts hr hlocks hnm hB hK hE hw hl
  have hown : s.vm.findClass RX5 = some m.cls := hown
  have hl : lv_has ls 3 [(0, .ref (ad 0)), (1, .int (nI i)), (2, .int y)] := hl
  obtain ⟨c_0, c_1, c_2, c_3, c_4, c_5, c_6, c_7, c_8, c_9, c_90, c_91, c_92, c_93, c_94, c_95, c_96, c_97, c_98, c_99, c_300, c_301, F_kf, F_oc, F_va, F_lw, F_M, hzn, hT⟩ := hR
  have hin_6 : ∀ w ∈ u_ws RX5 TX5 13, w ∈ wsX5_row := by decide +kernel
  have hf_57 := hts (.fieldLink RX5 57 "FixityRows" "rows" "LFixityRows$RowChain;") (by decide +kernel)
  have b_0 := c_0
  have b_1 := c_1
  have b_2 := c_2
  have b_3 := c_3
  have b_4 := c_4
  have b_5 := c_5
  have b_6 := c_6
  have b_7 := c_7
  have b_8 := c_8
  have b_9 := c_9
  have b_90 := c_90
  have b_91 := c_91
  have b_92 := c_92
  have b_93 := c_93
  have b_94 := c_94
  have b_95 := c_95
  have b_96 := c_96
  have b_97 := c_97
  have b_98 := c_98
  have b_99 := c_99
  have b_300 := c_300
  have b_301 := c_301
  refine lv_aload_n hx hb dX5_row_0 rfl (lv_at hl 0 rfl) ?_
  refine x_get (ci := 6) (C := RX5) (T := TX5) (n := 13) (ref := RX5) hx hb hts hin_6 hown hK hw 0 (by omega) c_0 rfl 8 (by decide) hf_57 (fun _ h => h) rfl dX5_row_1 ?_
  refine lv_iload_n hx hb dX5_row_4 rfl (lv_at hl 1 rfl) ?_
  refine x_Vi (q := 90) (As := [.int (nI i)]) (rest := []) ⟨hx, hb, hml, hown, hts⟩ (k_X3_has_in l D ca N ad B tR tK f dd (n 5) i c_90  (by omega) (by omega) (by omega)) (cwV 1 hts gX5_row_X3_has rfl rfl rfl (by decide +kernel) ⟨Nat.le_of_ble_eq_true rfl, Nat.le_of_ble_eq_true rfl⟩) hK hE hB hw (by omega) c_90 rfl rfl rfl rfl hl.1 (Nat.le_of_ble_eq_true rfl) ⟨Nat.zero_le _, Nat.zero_le _⟩ dX5_row_5 (fun r_2 f_1 H locs hp hw => ?_)
  obtain ⟨er, eu⟩ := hp
  rw [← er]
  rw [← eu] at hw
  refine lv_if_ne (tgt := 13) hx hb dX5_row_8 (by decide) (fun _ => ?_) (fun h => absurd h (by decide))
  refine lv_iload_n hx hb dX5_row_13 rfl (lv_at hl 2 rfl) ?_
  refine lv_tableOut (tgt := 80) hx hb dX5_row_14 ho (by decide) ?_
  refine lv_iconst (v := (-1)) hx hb dX5_row_80 (by decide) ?_
  have hRz : RepX ca ad n g z zn tb f := ⟨c_0,
        c_1,
        c_2,
        c_3,
        c_4,
        c_5,
        c_6,
        c_7,
        c_8,
        c_9,
        c_90,
        c_91,
        c_92,
        c_93,
        c_94,
        c_95,
        c_96,
        c_97,
        c_98,
        c_99,
        c_300,
        c_301,
        (fun i9 hi9 => by exact F_kf i9 hi9),
        (fun i9 hi9 => by exact F_oc i9 hi9),
        (fun i9 hi9 => by exact F_va i9 hi9),
        (fun i9 hi9 => by exact F_lw i9 hi9),
        (fun i9 hi9 => by exact F_M i9 hi9), hzn, hT⟩
  exact x_iret hx hb hr hlocks hw ⟨rfl, z, zn, hRz, (fun _ _ => rfl)⟩ dX5_row_81

abbrev rmX5_spoil : Room := { frames := 2, cells := 0, slots := 0, locals := 44 }

set_option maxHeartbeats 4000000 in
set_option maxRecDepth 100000 in
theorem k_X5_spoil_none (l : Launch) (D : va_G) (ca : Nat → ClassId) (N : Nat) (ad : Nat → Nat) (B tR tK : Nat) (f : Nat → va_E) (dd : xD N ad B) (hN : 302 ≤ N) (n : Nat → Nat) (g : Nat → Nat → Int32) (z : Nat → Nat → Int32) (zn : Nat) (tb : Nat → Int32) (hR : RepX ca ad n g z zn tb f) (x : Int32) (y : Int32) (ho : x < 0 ∨ nI (n 5) ≤ x) : xMi l yX5_spoil wsX5_spoil rmX5_spoil [.ref (ad 0), .int x, .int y] D ca N ad B tR tK f (fun r u => (-1) = r ∧ ∃ (z1 : Nat → Nat → Int32) (zn1 : Nat), RepX ca ad n g z1 zn1 tb u ∧ ∀ y, 302 ≤ y → u y = f y) := by
  refine x_open (cc := cX5_spoil) (maxL := 3) (ret := (some .int)) (by decide) rfl (Nat.le_of_ble_eq_true rfl) ?_
  intro p e s m below meth c ls hx hb hml hown hts hr hlocks hnm hB hK hE hw hl
  have hown : s.vm.findClass RX5 = some m.cls := hown
  have hl : lv_has ls 3 [(0, .ref (ad 0)), (1, .int x), (2, .int y)] := hl
  obtain ⟨c_0, c_1, c_2, c_3, c_4, c_5, c_6, c_7, c_8, c_9, c_90, c_91, c_92, c_93, c_94, c_95, c_96, c_97, c_98, c_99, c_300, c_301, F_kf, F_oc, F_va, F_lw, F_M, hzn, hT⟩ := hR
  have hin_6 : ∀ w ∈ u_ws RX5 TX5 13, w ∈ wsX5_spoil := by decide +kernel
  have hf_57 := hts (.fieldLink RX5 57 "FixityRows" "rows" "LFixityRows$RowChain;") (by decide +kernel)
  have b_0 := c_0
  have b_1 := c_1
  have b_2 := c_2
  have b_3 := c_3
  have b_4 := c_4
  have b_5 := c_5
  have b_6 := c_6
  have b_7 := c_7
  have b_8 := c_8
  have b_9 := c_9
  have b_90 := c_90
  have b_91 := c_91
  have b_92 := c_92
  have b_93 := c_93
  have b_94 := c_94
  have b_95 := c_95
  have b_96 := c_96
  have b_97 := c_97
  have b_98 := c_98
  have b_99 := c_99
  have b_300 := c_300
  have b_301 := c_301
  refine lv_aload_n hx hb dX5_spoil_0 rfl (lv_at hl 0 rfl) ?_
  refine x_get (ci := 6) (C := RX5) (T := TX5) (n := 13) (ref := RX5) hx hb hts hin_6 hown hK hw 0 (by omega) c_0 rfl 8 (by decide) hf_57 (fun _ h => h) rfl dX5_spoil_1 ?_
  refine lv_iload_n hx hb dX5_spoil_4 rfl (lv_at hl 1 rfl) ?_
  refine x_Vi (q := 90) (As := [.int x]) (rest := []) ⟨hx, hb, hml, hown, hts⟩ (k_X3_has_out l D ca N ad B tR tK f dd (n 5) x c_90  (by omega) ho) (cwV 1 hts gX5_spoil_X3_has rfl rfl rfl (by decide +kernel) ⟨Nat.le_of_ble_eq_true rfl, Nat.le_of_ble_eq_true rfl⟩) hK hE hB hw (by omega) c_90 rfl rfl rfl rfl hl.1 (Nat.le_of_ble_eq_true rfl) ⟨Nat.zero_le _, Nat.zero_le _⟩ dX5_spoil_5 (fun r_2 f_1 H locs hp hw => ?_)
  obtain ⟨er, eu⟩ := hp
  rw [← er]
  rw [← eu] at hw
  refine lv_if_ne (tgt := 13) hx hb dX5_spoil_8 (by decide) (fun h => False.elim (h (by decide))) (fun _ => ?_)
  refine lv_iconst (v := (-1)) hx hb dX5_spoil_11 (by decide) ?_
  have hRz : RepX ca ad n g z zn tb f := ⟨c_0,
        c_1,
        c_2,
        c_3,
        c_4,
        c_5,
        c_6,
        c_7,
        c_8,
        c_9,
        c_90,
        c_91,
        c_92,
        c_93,
        c_94,
        c_95,
        c_96,
        c_97,
        c_98,
        c_99,
        c_300,
        c_301,
        (fun i9 hi9 => by exact F_kf i9 hi9),
        (fun i9 hi9 => by exact F_oc i9 hi9),
        (fun i9 hi9 => by exact F_va i9 hi9),
        (fun i9 hi9 => by exact F_lw i9 hi9),
        (fun i9 hi9 => by exact F_M i9 hi9), hzn, hT⟩
  exact x_iret hx hb hr hlocks hw ⟨rfl, z, zn, hRz, (fun _ _ => rfl)⟩ dX5_spoil_12

set_option maxHeartbeats 4000000 in
set_option maxRecDepth 100000 in
theorem k_X5_spoil_gone (l : Launch) (D : va_G) (ca : Nat → ClassId) (N : Nat) (ad : Nat → Nat) (B tR tK : Nat) (f : Nat → va_E) (dd : xD N ad B) (hN : 302 ≤ N) (n : Nat → Nat) (g : Nat → Nat → Int32) (z : Nat → Nat → Int32) (zn : Nat) (tb : Nat → Int32) (hR : RepX ca ad n g z zn tb f) (i : Nat) (h5 : n 5 ≤ 200) (hi : i < n 5) : xMi l yX5_spoil wsX5_spoil rmX5_spoil [.ref (ad 0), .int (nI i), .int (nI 0)] D ca N ad B tR tK f (fun r u => nI 0 = r ∧ ∃ (z1 : Nat → Nat → Int32) (zn1 : Nat), RepX ca ad (va_up n 5 ((n 5) - 1)) (va_up (va_up (va_up (grow g (mrem (fun i => g (1000 + i)) i ((n 5) - 1))) 4 (shl (g 4) i ((n 5) - 1))) 5 (shl (g 5) i ((n 5) - 1))) 6 (shl (g 6) i ((n 5) - 1))) z1 zn1 tb u ∧ ∀ y, 302 ≤ y → u y = f y) := by
  refine x_open (cc := cX5_spoil) (maxL := 3) (ret := (some .int)) (by decide) rfl (Nat.le_of_ble_eq_true rfl) ?_
  intro p e s m below meth c ls hx hb hml hown hts hr hlocks hnm hB hK hE hw hl
  have hown : s.vm.findClass RX5 = some m.cls := hown
  have hl : lv_has ls 3 [(0, .ref (ad 0)), (1, .int (nI i)), (2, .int (nI 0))] := hl
  obtain ⟨c_0, c_1, c_2, c_3, c_4, c_5, c_6, c_7, c_8, c_9, c_90, c_91, c_92, c_93, c_94, c_95, c_96, c_97, c_98, c_99, c_300, c_301, F_kf, F_oc, F_va, F_lw, F_M, hzn, hT⟩ := hR
  have hin_6 : ∀ w ∈ u_ws RX5 TX5 13, w ∈ wsX5_spoil := by decide +kernel
  have hf_57 := hts (.fieldLink RX5 57 "FixityRows" "rows" "LFixityRows$RowChain;") (by decide +kernel)
  have b_0 := c_0
  have b_1 := c_1
  have b_2 := c_2
  have b_3 := c_3
  have b_4 := c_4
  have b_5 := c_5
  have b_6 := c_6
  have b_7 := c_7
  have b_8 := c_8
  have b_9 := c_9
  have b_90 := c_90
  have b_91 := c_91
  have b_92 := c_92
  have b_93 := c_93
  have b_94 := c_94
  have b_95 := c_95
  have b_96 := c_96
  have b_97 := c_97
  have b_98 := c_98
  have b_99 := c_99
  have b_300 := c_300
  have b_301 := c_301
  refine lv_aload_n hx hb dX5_spoil_0 rfl (lv_at hl 0 rfl) ?_
  refine x_get (ci := 6) (C := RX5) (T := TX5) (n := 13) (ref := RX5) hx hb hts hin_6 hown hK hw 0 (by omega) c_0 rfl 8 (by decide) hf_57 (fun _ h => h) rfl dX5_spoil_1 ?_
  refine lv_iload_n hx hb dX5_spoil_4 rfl (lv_at hl 1 rfl) ?_
  refine x_Vi (q := 90) (As := [.int (nI i)]) (rest := []) ⟨hx, hb, hml, hown, hts⟩ (k_X3_has_in l D ca N ad B tR tK f dd (n 5) i c_90  (by omega) (by omega) (by omega)) (cwV 1 hts gX5_spoil_X3_has rfl rfl rfl (by decide +kernel) ⟨Nat.le_of_ble_eq_true rfl, Nat.le_of_ble_eq_true rfl⟩) hK hE hB hw (by omega) c_90 rfl rfl rfl rfl hl.1 (Nat.le_of_ble_eq_true rfl) ⟨Nat.zero_le _, Nat.zero_le _⟩ dX5_spoil_5 (fun r_2 f_1 H locs hp hw => ?_)
  obtain ⟨er, eu⟩ := hp
  rw [← er]
  rw [← eu] at hw
  refine lv_if_ne (tgt := 13) hx hb dX5_spoil_8 (by decide) (fun _ => ?_) (fun h => absurd h (by decide))
  refine lv_iload_n hx hb dX5_spoil_13 rfl (lv_at hl 2 rfl) ?_
  refine lv_if_ne (tgt := 27) hx hb dX5_spoil_14 (by decide) (fun h => False.elim (h (by decide))) (fun _ => ?_)
  refine lv_aload_n hx hb dX5_spoil_17 rfl (lv_at hl 0 rfl) ?_
  refine x_get (ci := 6) (C := RX5) (T := TX5) (n := 13) (ref := RX5) hx hb hts hin_6 hown hK hw 0 (by omega) c_0 rfl 8 (by decide) hf_57 (fun _ h => h) rfl dX5_spoil_18 ?_
  refine lv_iload_n hx hb dX5_spoil_21 rfl (lv_at hl 1 rfl) ?_
  refine x_Vv (q := 90) (As := [.int (nI i)]) (rest := []) ⟨hx, hb, hml, hown, hts⟩ (k_X3_remove_in l D ca N ad B tR tK f dd (n 5) (g 4) (g 5) (g 6) (fun i => g (1000 + i)) i c_90 c_96 c_97 c_98 c_99 F_M (by omega) (by omega) (by omega)) (cwV 1 hts gX5_spoil_X3_remove rfl rfl rfl (by decide +kernel) ⟨Nat.le_of_ble_eq_true rfl, Nat.le_of_ble_eq_true rfl⟩) hK hE hB hw (by omega) c_90 rfl rfl rfl rfl hl.1 (Nat.le_of_ble_eq_true rfl) ⟨Nat.zero_le _, Nat.zero_le _⟩ dX5_spoil_22 (fun f_3 H locs hp hw => ?_)
  have eu := hp
  have ef_3 : f_3 = va_up (va_up (va_up (va_up (vrow ca f (mrem (fun i => g (1000 + i)) i ((n 5) - 1))) 96 (ai (ca 0) 200 (shl (g 4) i ((n 5) - 1)))) 97 (ai (ca 0) 200 (shl (g 5) i ((n 5) - 1)))) 98 (ai (ca 0) 200 (shl (g 6) i ((n 5) - 1)))) 90 (.inr (4, [.ref (ad 91), .ref (ad 94), .ref (ad 96), .ref (ad 97), .ref (ad 98), .ref (ad 99), .int (nI ((n 5) - 1))])) := eu
  have c_96 : f_3 96 = ai (ca 0) 200 (shl (g 4) i ((n 5) - 1)) := by rw [ef_3, va_up_ne _ _ (by decide), va_up_ne _ _ (by decide), va_up_ne _ _ (by decide), va_up_self]
  have c_97 : f_3 97 = ai (ca 0) 200 (shl (g 5) i ((n 5) - 1)) := by rw [ef_3, va_up_ne _ _ (by decide), va_up_ne _ _ (by decide), va_up_self]
  have c_98 : f_3 98 = ai (ca 0) 200 (shl (g 6) i ((n 5) - 1)) := by rw [ef_3, va_up_ne _ _ (by decide), va_up_self]
  have c_90 : f_3 90 = .inr (4, [.ref (ad 91), .ref (ad 94), .ref (ad 96), .ref (ad 97), .ref (ad 98), .ref (ad 99), .int (nI ((n 5) - 1))]) := by rw [ef_3, va_up_self]
  refine lv_iconst (v := nI 0) hx hb dX5_spoil_25 (by decide) ?_
  have c_0 : f_3 0 = .inr (6, [.int (nI (n 0)), .ref (ad 1), .ref (ad 4), .ref (ad 6), .ref (ad 8), .int (nI (n 1)), .ref (ad 9), .int (nI (n 2)), .ref (ad 90), .ref (ad 300), .ref (ad 301), .int (nI (n 3)), .int (g 13 0)]) := by rw [ef_3, va_up_ne _ _ (by decide), va_up_ne _ _ (by decide), va_up_ne _ _ (by decide), va_up_ne _ _ (by decide), vrow_ne _ _ _ (by omega)]; exact c_0
  have c_1 : f_3 1 = .inr (2, [.ref (ad 2), .ref (ad 3)]) := by rw [ef_3, va_up_ne _ _ (by decide), va_up_ne _ _ (by decide), va_up_ne _ _ (by decide), va_up_ne _ _ (by decide), vrow_ne _ _ _ (by omega)]; exact c_1
  have c_2 : f_3 2 = ai (ca 0) 8 (z 0) := by rw [ef_3, va_up_ne _ _ (by decide), va_up_ne _ _ (by decide), va_up_ne _ _ (by decide), va_up_ne _ _ (by decide), vrow_ne _ _ _ (by omega)]; exact c_2
  have c_3 : f_3 3 = ai (ca 0) 64 (z 1) := by rw [ef_3, va_up_ne _ _ (by decide), va_up_ne _ _ (by decide), va_up_ne _ _ (by decide), va_up_ne _ _ (by decide), vrow_ne _ _ _ (by omega)]; exact c_3
  have c_4 : f_3 4 = .inr (5, [.ref (ad 5)]) := by rw [ef_3, va_up_ne _ _ (by decide), va_up_ne _ _ (by decide), va_up_ne _ _ (by decide), va_up_ne _ _ (by decide), vrow_ne _ _ _ (by omega)]; exact c_4
  have c_5 : f_3 5 = ai (ca 0) 256 tb := by rw [ef_3, va_up_ne _ _ (by decide), va_up_ne _ _ (by decide), va_up_ne _ _ (by decide), va_up_ne _ _ (by decide), vrow_ne _ _ _ (by omega)]; exact c_5
  have c_6 : f_3 6 = .inr (3, [.ref (ad 7), .int (nI (n 4))]) := by rw [ef_3, va_up_ne _ _ (by decide), va_up_ne _ _ (by decide), va_up_ne _ _ (by decide), va_up_ne _ _ (by decide), vrow_ne _ _ _ (by omega)]; exact c_6
  have c_7 : f_3 7 = ai (ca 0) 200 (g 0) := by rw [ef_3, va_up_ne _ _ (by decide), va_up_ne _ _ (by decide), va_up_ne _ _ (by decide), va_up_ne _ _ (by decide), vrow_ne _ _ _ (by omega)]; exact c_7
  have c_8 : f_3 8 = ai (ca 0) 8 (g 1) := by rw [ef_3, va_up_ne _ _ (by decide), va_up_ne _ _ (by decide), va_up_ne _ _ (by decide), va_up_ne _ _ (by decide), vrow_ne _ _ _ (by omega)]; exact c_8
  have c_9 : f_3 9 = aq (ca 3) 20 (fun i => some (ad (10 + 4 * i))) := by rw [ef_3, va_up_ne _ _ (by decide), va_up_ne _ _ (by decide), va_up_ne _ _ (by decide), va_up_ne _ _ (by decide), vrow_ne _ _ _ (by omega)]; exact c_9
  have c_91 : f_3 91 = .inr (2, [.ref (ad 92), .ref (ad 93)]) := by rw [ef_3, va_up_ne _ _ (by decide), va_up_ne _ _ (by decide), va_up_ne _ _ (by decide), va_up_ne _ _ (by decide), vrow_ne _ _ _ (by omega)]; exact c_91
  have c_92 : f_3 92 = ai (ca 0) 8 (z 2) := by rw [ef_3, va_up_ne _ _ (by decide), va_up_ne _ _ (by decide), va_up_ne _ _ (by decide), va_up_ne _ _ (by decide), vrow_ne _ _ _ (by omega)]; exact c_92
  have c_93 : f_3 93 = ai (ca 0) 64 (z 3) := by rw [ef_3, va_up_ne _ _ (by decide), va_up_ne _ _ (by decide), va_up_ne _ _ (by decide), va_up_ne _ _ (by decide), vrow_ne _ _ _ (by omega)]; exact c_93
  have c_94 : f_3 94 = .inr (3, [.ref (ad 95), .int (nI zn)]) := by rw [ef_3, va_up_ne _ _ (by decide), va_up_ne _ _ (by decide), va_up_ne _ _ (by decide), va_up_ne _ _ (by decide), vrow_ne _ _ _ (by omega)]; exact c_94
  have c_95 : f_3 95 = ai (ca 0) 200 (z 4) := by rw [ef_3, va_up_ne _ _ (by decide), va_up_ne _ _ (by decide), va_up_ne _ _ (by decide), va_up_ne _ _ (by decide), vrow_ne _ _ _ (by omega)]; exact c_95
  have c_99 : f_3 99 = aq (ca 4) 200 (fun i => some (ad (100 + i))) := by rw [ef_3, va_up_ne _ _ (by decide), va_up_ne _ _ (by decide), va_up_ne _ _ (by decide), va_up_ne _ _ (by decide), vrow_ne _ _ _ (by omega)]; exact c_99
  have c_300 : f_3 300 = ai (ca 0) 20 (g 2) := by rw [ef_3, va_up_ne _ _ (by decide), va_up_ne _ _ (by decide), va_up_ne _ _ (by decide), va_up_ne _ _ (by decide), vrow_ne _ _ _ (by omega)]; exact c_300
  have c_301 : f_3 301 = ai (ca 2) 20 (g 3) := by rw [ef_3, va_up_ne _ _ (by decide), va_up_ne _ _ (by decide), va_up_ne _ _ (by decide), va_up_ne _ _ (by decide), vrow_ne _ _ _ (by omega)]; exact c_301
  have qn_0 : (va_up n 5 ((n 5) - 1)) 0 = n 0 := by rw [va_up_ne _ _ (by decide)]
  have qn_1 : (va_up n 5 ((n 5) - 1)) 1 = n 1 := by rw [va_up_ne _ _ (by decide)]
  have qn_2 : (va_up n 5 ((n 5) - 1)) 2 = n 2 := by rw [va_up_ne _ _ (by decide)]
  have qn_3 : (va_up n 5 ((n 5) - 1)) 3 = n 3 := by rw [va_up_ne _ _ (by decide)]
  have qn_4 : (va_up n 5 ((n 5) - 1)) 4 = n 4 := by rw [va_up_ne _ _ (by decide)]
  have qn_5 : (va_up n 5 ((n 5) - 1)) 5 = (n 5) - 1 := by rw [va_up_self]
  have qg_0 : (va_up (va_up (va_up (grow g (mrem (fun i => g (1000 + i)) i ((n 5) - 1))) 4 (shl (g 4) i ((n 5) - 1))) 5 (shl (g 5) i ((n 5) - 1))) 6 (shl (g 6) i ((n 5) - 1))) 0 = g 0 := by rw [va_up_ne _ _ (by decide), va_up_ne _ _ (by decide), va_up_ne _ _ (by decide), grow_ne _ _ (by omega)]
  have qg_1 : (va_up (va_up (va_up (grow g (mrem (fun i => g (1000 + i)) i ((n 5) - 1))) 4 (shl (g 4) i ((n 5) - 1))) 5 (shl (g 5) i ((n 5) - 1))) 6 (shl (g 6) i ((n 5) - 1))) 1 = g 1 := by rw [va_up_ne _ _ (by decide), va_up_ne _ _ (by decide), va_up_ne _ _ (by decide), grow_ne _ _ (by omega)]
  have qg_2 : (va_up (va_up (va_up (grow g (mrem (fun i => g (1000 + i)) i ((n 5) - 1))) 4 (shl (g 4) i ((n 5) - 1))) 5 (shl (g 5) i ((n 5) - 1))) 6 (shl (g 6) i ((n 5) - 1))) 2 = g 2 := by rw [va_up_ne _ _ (by decide), va_up_ne _ _ (by decide), va_up_ne _ _ (by decide), grow_ne _ _ (by omega)]
  have qg_3 : (va_up (va_up (va_up (grow g (mrem (fun i => g (1000 + i)) i ((n 5) - 1))) 4 (shl (g 4) i ((n 5) - 1))) 5 (shl (g 5) i ((n 5) - 1))) 6 (shl (g 6) i ((n 5) - 1))) 3 = g 3 := by rw [va_up_ne _ _ (by decide), va_up_ne _ _ (by decide), va_up_ne _ _ (by decide), grow_ne _ _ (by omega)]
  have qg_4 : (va_up (va_up (va_up (grow g (mrem (fun i => g (1000 + i)) i ((n 5) - 1))) 4 (shl (g 4) i ((n 5) - 1))) 5 (shl (g 5) i ((n 5) - 1))) 6 (shl (g 6) i ((n 5) - 1))) 4 = shl (g 4) i ((n 5) - 1) := by rw [va_up_ne _ _ (by decide), va_up_ne _ _ (by decide), va_up_self]
  have qg_5 : (va_up (va_up (va_up (grow g (mrem (fun i => g (1000 + i)) i ((n 5) - 1))) 4 (shl (g 4) i ((n 5) - 1))) 5 (shl (g 5) i ((n 5) - 1))) 6 (shl (g 6) i ((n 5) - 1))) 5 = shl (g 5) i ((n 5) - 1) := by rw [va_up_ne _ _ (by decide), va_up_self]
  have qg_6 : (va_up (va_up (va_up (grow g (mrem (fun i => g (1000 + i)) i ((n 5) - 1))) 4 (shl (g 4) i ((n 5) - 1))) 5 (shl (g 5) i ((n 5) - 1))) 6 (shl (g 6) i ((n 5) - 1))) 6 = shl (g 6) i ((n 5) - 1) := by rw [va_up_self]
  have qg_7 : (va_up (va_up (va_up (grow g (mrem (fun i => g (1000 + i)) i ((n 5) - 1))) 4 (shl (g 4) i ((n 5) - 1))) 5 (shl (g 5) i ((n 5) - 1))) 6 (shl (g 6) i ((n 5) - 1))) 7 = g 7 := by rw [va_up_ne _ _ (by decide), va_up_ne _ _ (by decide), va_up_ne _ _ (by decide), grow_ne _ _ (by omega)]
  have qg_8 : (va_up (va_up (va_up (grow g (mrem (fun i => g (1000 + i)) i ((n 5) - 1))) 4 (shl (g 4) i ((n 5) - 1))) 5 (shl (g 5) i ((n 5) - 1))) 6 (shl (g 6) i ((n 5) - 1))) 8 = g 8 := by rw [va_up_ne _ _ (by decide), va_up_ne _ _ (by decide), va_up_ne _ _ (by decide), grow_ne _ _ (by omega)]
  have qg_9 : (va_up (va_up (va_up (grow g (mrem (fun i => g (1000 + i)) i ((n 5) - 1))) 4 (shl (g 4) i ((n 5) - 1))) 5 (shl (g 5) i ((n 5) - 1))) 6 (shl (g 6) i ((n 5) - 1))) 9 = g 9 := by rw [va_up_ne _ _ (by decide), va_up_ne _ _ (by decide), va_up_ne _ _ (by decide), grow_ne _ _ (by omega)]
  have qg_10 : (va_up (va_up (va_up (grow g (mrem (fun i => g (1000 + i)) i ((n 5) - 1))) 4 (shl (g 4) i ((n 5) - 1))) 5 (shl (g 5) i ((n 5) - 1))) 6 (shl (g 6) i ((n 5) - 1))) 10 = g 10 := by rw [va_up_ne _ _ (by decide), va_up_ne _ _ (by decide), va_up_ne _ _ (by decide), grow_ne _ _ (by omega)]
  have qg_11 : (va_up (va_up (va_up (grow g (mrem (fun i => g (1000 + i)) i ((n 5) - 1))) 4 (shl (g 4) i ((n 5) - 1))) 5 (shl (g 5) i ((n 5) - 1))) 6 (shl (g 6) i ((n 5) - 1))) 11 = g 11 := by rw [va_up_ne _ _ (by decide), va_up_ne _ _ (by decide), va_up_ne _ _ (by decide), grow_ne _ _ (by omega)]
  have qg_12 : (va_up (va_up (va_up (grow g (mrem (fun i => g (1000 + i)) i ((n 5) - 1))) 4 (shl (g 4) i ((n 5) - 1))) 5 (shl (g 5) i ((n 5) - 1))) 6 (shl (g 6) i ((n 5) - 1))) 12 = g 12 := by rw [va_up_ne _ _ (by decide), va_up_ne _ _ (by decide), va_up_ne _ _ (by decide), grow_ne _ _ (by omega)]
  have qg_13 : (va_up (va_up (va_up (grow g (mrem (fun i => g (1000 + i)) i ((n 5) - 1))) 4 (shl (g 4) i ((n 5) - 1))) 5 (shl (g 5) i ((n 5) - 1))) 6 (shl (g 6) i ((n 5) - 1))) 13 = g 13 := by rw [va_up_ne _ _ (by decide), va_up_ne _ _ (by decide), va_up_ne _ _ (by decide), grow_ne _ _ (by omega)]
  have hRz : RepX ca ad (va_up n 5 ((n 5) - 1)) (va_up (va_up (va_up (grow g (mrem (fun i => g (1000 + i)) i ((n 5) - 1))) 4 (shl (g 4) i ((n 5) - 1))) 5 (shl (g 5) i ((n 5) - 1))) 6 (shl (g 6) i ((n 5) - 1))) z zn tb f_3 := ⟨(by rw [qn_0, qn_1, qn_2, qn_3, qg_13]; exact c_0),
        c_1,
        c_2,
        c_3,
        c_4,
        c_5,
        (by rw [qn_4]; exact c_6),
        (by rw [qg_0]; exact c_7),
        (by rw [qg_1]; exact c_8),
        c_9,
        (by rw [qn_5]; exact c_90),
        c_91,
        c_92,
        c_93,
        c_94,
        c_95,
        (by rw [qg_4]; exact c_96),
        (by rw [qg_5]; exact c_97),
        (by rw [qg_6]; exact c_98),
        c_99,
        (by rw [qg_2]; exact c_300),
        (by rw [qg_3]; exact c_301),
        (fun i9 hi9 => by rw [qg_7, qg_8, qg_9, qg_10, qg_11, qg_12]; rw [ef_3, va_up_ne _ _ (by omega), va_up_ne _ _ (by omega), va_up_ne _ _ (by omega), va_up_ne _ _ (by omega), vrow_ne _ _ _ (by omega)]; exact F_kf i9 hi9),
        (fun i9 hi9 => by rw [va_up_ne _ _ (by omega)]; rw [ef_3, va_up_ne _ _ (by omega), va_up_ne _ _ (by omega), va_up_ne _ _ (by omega), va_up_ne _ _ (by omega), vrow_ne _ _ _ (by omega)]; exact F_oc i9 hi9),
        (fun i9 hi9 => by rw [va_up_ne _ _ (by omega), va_up_ne _ _ (by omega), va_up_ne _ _ (by omega), grow_ne _ _ (by omega)]; rw [ef_3, va_up_ne _ _ (by omega), va_up_ne _ _ (by omega), va_up_ne _ _ (by omega), va_up_ne _ _ (by omega), vrow_ne _ _ _ (by omega)]; exact F_va i9 hi9),
        (fun i9 hi9 => by rw [va_up_ne _ _ (by omega), va_up_ne _ _ (by omega), va_up_ne _ _ (by omega), grow_ne _ _ (by omega)]; rw [ef_3, va_up_ne _ _ (by omega), va_up_ne _ _ (by omega), va_up_ne _ _ (by omega), va_up_ne _ _ (by omega), vrow_ne _ _ _ (by omega)]; exact F_lw i9 hi9),
        (fun i9 hi9 => by rw [va_up_ne _ _ (by omega), va_up_ne _ _ (by omega), va_up_ne _ _ (by omega), grow_at _ _ hi9]; rw [ef_3, va_up_ne _ _ (by omega), va_up_ne _ _ (by omega), va_up_ne _ _ (by omega), va_up_ne _ _ (by omega)]; exact vrow_at _ _ _ hi9), hzn, hT⟩
  exact x_iret hx hb hr hlocks hw ⟨rfl, z, zn, hRz, (fun y hy => by rw [ef_3, va_up_ne _ _ (by omega), va_up_ne _ _ (by omega), va_up_ne _ _ (by omega), va_up_ne _ _ (by omega), vrow_ne _ _ _ (by omega)])⟩ dX5_spoil_26

set_option maxHeartbeats 4000000 in
set_option maxRecDepth 100000 in
theorem k_X5_spoil_day (l : Launch) (D : va_G) (ca : Nat → ClassId) (N : Nat) (ad : Nat → Nat) (B tR tK : Nat) (f : Nat → va_E) (dd : xD N ad B) (hN : 302 ≤ N) (n : Nat → Nat) (g : Nat → Nat → Int32) (z : Nat → Nat → Int32) (zn : Nat) (tb : Nat → Int32) (hR : RepX ca ad n g z zn tb f) (i : Nat) (y : Int32) (h5 : n 5 ≤ 200) (hi : i < n 5) (ho : ¬ y = 0) : xMi l yX5_spoil wsX5_spoil rmX5_spoil [.ref (ad 0), .int (nI i), .int y] D ca N ad B tR tK f (fun r u => nI 1 = r ∧ ∃ (z1 : Nat → Nat → Int32) (zn1 : Nat), RepX ca ad n (va_up g 6 (upd (g 6) i ((g 6) i ^^^ y))) z1 zn1 tb u ∧ ∀ y, 302 ≤ y → u y = f y) := by
  refine x_open (cc := cX5_spoil) (maxL := 3) (ret := (some .int)) (by decide) rfl (Nat.le_of_ble_eq_true rfl) ?_
  intro p e s m below meth c ls hx hb hml hown hts hr hlocks hnm hB hK hE hw hl
  have hown : s.vm.findClass RX5 = some m.cls := hown
  have hl : lv_has ls 3 [(0, .ref (ad 0)), (1, .int (nI i)), (2, .int y)] := hl
  obtain ⟨c_0, c_1, c_2, c_3, c_4, c_5, c_6, c_7, c_8, c_9, c_90, c_91, c_92, c_93, c_94, c_95, c_96, c_97, c_98, c_99, c_300, c_301, F_kf, F_oc, F_va, F_lw, F_M, hzn, hT⟩ := hR
  have hin_6 : ∀ w ∈ u_ws RX5 TX5 13, w ∈ wsX5_spoil := by decide +kernel
  have hf_57 := hts (.fieldLink RX5 57 "FixityRows" "rows" "LFixityRows$RowChain;") (by decide +kernel)
  have b_0 := c_0
  have b_1 := c_1
  have b_2 := c_2
  have b_3 := c_3
  have b_4 := c_4
  have b_5 := c_5
  have b_6 := c_6
  have b_7 := c_7
  have b_8 := c_8
  have b_9 := c_9
  have b_90 := c_90
  have b_91 := c_91
  have b_92 := c_92
  have b_93 := c_93
  have b_94 := c_94
  have b_95 := c_95
  have b_96 := c_96
  have b_97 := c_97
  have b_98 := c_98
  have b_99 := c_99
  have b_300 := c_300
  have b_301 := c_301
  refine lv_aload_n hx hb dX5_spoil_0 rfl (lv_at hl 0 rfl) ?_
  refine x_get (ci := 6) (C := RX5) (T := TX5) (n := 13) (ref := RX5) hx hb hts hin_6 hown hK hw 0 (by omega) c_0 rfl 8 (by decide) hf_57 (fun _ h => h) rfl dX5_spoil_1 ?_
  refine lv_iload_n hx hb dX5_spoil_4 rfl (lv_at hl 1 rfl) ?_
  refine x_Vi (q := 90) (As := [.int (nI i)]) (rest := []) ⟨hx, hb, hml, hown, hts⟩ (k_X3_has_in l D ca N ad B tR tK f dd (n 5) i c_90  (by omega) (by omega) (by omega)) (cwV 1 hts gX5_spoil_X3_has rfl rfl rfl (by decide +kernel) ⟨Nat.le_of_ble_eq_true rfl, Nat.le_of_ble_eq_true rfl⟩) hK hE hB hw (by omega) c_90 rfl rfl rfl rfl hl.1 (Nat.le_of_ble_eq_true rfl) ⟨Nat.zero_le _, Nat.zero_le _⟩ dX5_spoil_5 (fun r_2 f_1 H locs hp hw => ?_)
  obtain ⟨er, eu⟩ := hp
  rw [← er]
  rw [← eu] at hw
  refine lv_if_ne (tgt := 13) hx hb dX5_spoil_8 (by decide) (fun _ => ?_) (fun h => absurd h (by decide))
  refine lv_iload_n hx hb dX5_spoil_13 rfl (lv_at hl 2 rfl) ?_
  refine lv_if_ne (tgt := 27) hx hb dX5_spoil_14 (by decide) (fun hc_14 => ?_) (fun hc_14 => ?_)
  · refine lv_aload_n hx hb dX5_spoil_27 rfl (lv_at hl 0 rfl) ?_
    refine x_get (ci := 6) (C := RX5) (T := TX5) (n := 13) (ref := RX5) hx hb hts hin_6 hown hK hw 0 (by omega) c_0 rfl 8 (by decide) hf_57 (fun _ h => h) rfl dX5_spoil_28 ?_
    refine lv_iload_n hx hb dX5_spoil_31 rfl (lv_at hl 1 rfl) ?_
    refine lv_iload_n hx hb dX5_spoil_32 rfl (lv_at hl 2 rfl) ?_
    refine x_Vv (q := 90) (As := [.int (nI i), .int y]) (rest := []) ⟨hx, hb, hml, hown, hts⟩ (k_X3_changeDay_in l D ca N ad B tR tK f dd (n 5) i y (g 6) c_90 c_98  (by omega) (by omega) (by omega)) (cwV 2 hts gX5_spoil_X3_changeDay rfl rfl rfl (by decide +kernel) ⟨Nat.le_of_ble_eq_true rfl, Nat.le_of_ble_eq_true rfl⟩) hK hE hB hw (by omega) c_90 rfl rfl rfl rfl hl.1 (Nat.le_of_ble_eq_true rfl) ⟨Nat.zero_le _, Nat.zero_le _⟩ dX5_spoil_33 (fun f_3 H locs hp hw => ?_)
    have eu := hp
    have ef_3 : f_3 = va_up f 98 (ai (ca 0) 200 (upd (g 6) i ((g 6) i ^^^ y))) := eu
    have c_98 : f_3 98 = ai (ca 0) 200 (upd (g 6) i ((g 6) i ^^^ y)) := by rw [ef_3, va_up_self]
    refine lv_iconst (v := nI 1) hx hb dX5_spoil_36 (by decide) ?_
    have c_0 : f_3 0 = .inr (6, [.int (nI (n 0)), .ref (ad 1), .ref (ad 4), .ref (ad 6), .ref (ad 8), .int (nI (n 1)), .ref (ad 9), .int (nI (n 2)), .ref (ad 90), .ref (ad 300), .ref (ad 301), .int (nI (n 3)), .int (g 13 0)]) := by rw [ef_3, va_up_ne _ _ (by decide)]; exact c_0
    have c_1 : f_3 1 = .inr (2, [.ref (ad 2), .ref (ad 3)]) := by rw [ef_3, va_up_ne _ _ (by decide)]; exact c_1
    have c_2 : f_3 2 = ai (ca 0) 8 (z 0) := by rw [ef_3, va_up_ne _ _ (by decide)]; exact c_2
    have c_3 : f_3 3 = ai (ca 0) 64 (z 1) := by rw [ef_3, va_up_ne _ _ (by decide)]; exact c_3
    have c_4 : f_3 4 = .inr (5, [.ref (ad 5)]) := by rw [ef_3, va_up_ne _ _ (by decide)]; exact c_4
    have c_5 : f_3 5 = ai (ca 0) 256 tb := by rw [ef_3, va_up_ne _ _ (by decide)]; exact c_5
    have c_6 : f_3 6 = .inr (3, [.ref (ad 7), .int (nI (n 4))]) := by rw [ef_3, va_up_ne _ _ (by decide)]; exact c_6
    have c_7 : f_3 7 = ai (ca 0) 200 (g 0) := by rw [ef_3, va_up_ne _ _ (by decide)]; exact c_7
    have c_8 : f_3 8 = ai (ca 0) 8 (g 1) := by rw [ef_3, va_up_ne _ _ (by decide)]; exact c_8
    have c_9 : f_3 9 = aq (ca 3) 20 (fun i => some (ad (10 + 4 * i))) := by rw [ef_3, va_up_ne _ _ (by decide)]; exact c_9
    have c_90 : f_3 90 = .inr (4, [.ref (ad 91), .ref (ad 94), .ref (ad 96), .ref (ad 97), .ref (ad 98), .ref (ad 99), .int (nI (n 5))]) := by rw [ef_3, va_up_ne _ _ (by decide)]; exact c_90
    have c_91 : f_3 91 = .inr (2, [.ref (ad 92), .ref (ad 93)]) := by rw [ef_3, va_up_ne _ _ (by decide)]; exact c_91
    have c_92 : f_3 92 = ai (ca 0) 8 (z 2) := by rw [ef_3, va_up_ne _ _ (by decide)]; exact c_92
    have c_93 : f_3 93 = ai (ca 0) 64 (z 3) := by rw [ef_3, va_up_ne _ _ (by decide)]; exact c_93
    have c_94 : f_3 94 = .inr (3, [.ref (ad 95), .int (nI zn)]) := by rw [ef_3, va_up_ne _ _ (by decide)]; exact c_94
    have c_95 : f_3 95 = ai (ca 0) 200 (z 4) := by rw [ef_3, va_up_ne _ _ (by decide)]; exact c_95
    have c_96 : f_3 96 = ai (ca 0) 200 (g 4) := by rw [ef_3, va_up_ne _ _ (by decide)]; exact c_96
    have c_97 : f_3 97 = ai (ca 0) 200 (g 5) := by rw [ef_3, va_up_ne _ _ (by decide)]; exact c_97
    have c_99 : f_3 99 = aq (ca 4) 200 (fun i => some (ad (100 + i))) := by rw [ef_3, va_up_ne _ _ (by decide)]; exact c_99
    have c_300 : f_3 300 = ai (ca 0) 20 (g 2) := by rw [ef_3, va_up_ne _ _ (by decide)]; exact c_300
    have c_301 : f_3 301 = ai (ca 2) 20 (g 3) := by rw [ef_3, va_up_ne _ _ (by decide)]; exact c_301
    have qg_0 : (va_up g 6 (upd (g 6) i ((g 6) i ^^^ y))) 0 = g 0 := by rw [va_up_ne _ _ (by decide)]
    have qg_1 : (va_up g 6 (upd (g 6) i ((g 6) i ^^^ y))) 1 = g 1 := by rw [va_up_ne _ _ (by decide)]
    have qg_2 : (va_up g 6 (upd (g 6) i ((g 6) i ^^^ y))) 2 = g 2 := by rw [va_up_ne _ _ (by decide)]
    have qg_3 : (va_up g 6 (upd (g 6) i ((g 6) i ^^^ y))) 3 = g 3 := by rw [va_up_ne _ _ (by decide)]
    have qg_4 : (va_up g 6 (upd (g 6) i ((g 6) i ^^^ y))) 4 = g 4 := by rw [va_up_ne _ _ (by decide)]
    have qg_5 : (va_up g 6 (upd (g 6) i ((g 6) i ^^^ y))) 5 = g 5 := by rw [va_up_ne _ _ (by decide)]
    have qg_6 : (va_up g 6 (upd (g 6) i ((g 6) i ^^^ y))) 6 = upd (g 6) i ((g 6) i ^^^ y) := by rw [va_up_self]
    have qg_7 : (va_up g 6 (upd (g 6) i ((g 6) i ^^^ y))) 7 = g 7 := by rw [va_up_ne _ _ (by decide)]
    have qg_8 : (va_up g 6 (upd (g 6) i ((g 6) i ^^^ y))) 8 = g 8 := by rw [va_up_ne _ _ (by decide)]
    have qg_9 : (va_up g 6 (upd (g 6) i ((g 6) i ^^^ y))) 9 = g 9 := by rw [va_up_ne _ _ (by decide)]
    have qg_10 : (va_up g 6 (upd (g 6) i ((g 6) i ^^^ y))) 10 = g 10 := by rw [va_up_ne _ _ (by decide)]
    have qg_11 : (va_up g 6 (upd (g 6) i ((g 6) i ^^^ y))) 11 = g 11 := by rw [va_up_ne _ _ (by decide)]
    have qg_12 : (va_up g 6 (upd (g 6) i ((g 6) i ^^^ y))) 12 = g 12 := by rw [va_up_ne _ _ (by decide)]
    have qg_13 : (va_up g 6 (upd (g 6) i ((g 6) i ^^^ y))) 13 = g 13 := by rw [va_up_ne _ _ (by decide)]
    have hRz : RepX ca ad n (va_up g 6 (upd (g 6) i ((g 6) i ^^^ y))) z zn tb f_3 := ⟨(by rw [qg_13]; exact c_0),
          c_1,
          c_2,
          c_3,
          c_4,
          c_5,
          c_6,
          (by rw [qg_0]; exact c_7),
          (by rw [qg_1]; exact c_8),
          c_9,
          c_90,
          c_91,
          c_92,
          c_93,
          c_94,
          c_95,
          (by rw [qg_4]; exact c_96),
          (by rw [qg_5]; exact c_97),
          (by rw [qg_6]; exact c_98),
          c_99,
          (by rw [qg_2]; exact c_300),
          (by rw [qg_3]; exact c_301),
          (fun i9 hi9 => by rw [qg_7, qg_8, qg_9, qg_10, qg_11, qg_12]; rw [ef_3, va_up_ne _ _ (by omega)]; exact F_kf i9 hi9),
          (fun i9 hi9 => by rw [ef_3, va_up_ne _ _ (by omega)]; exact F_oc i9 hi9),
          (fun i9 hi9 => by rw [va_up_ne _ _ (by omega)]; rw [ef_3, va_up_ne _ _ (by omega)]; exact F_va i9 hi9),
          (fun i9 hi9 => by rw [va_up_ne _ _ (by omega)]; rw [ef_3, va_up_ne _ _ (by omega)]; exact F_lw i9 hi9),
          (fun i9 hi9 => by rw [va_up_ne _ _ (by omega)]; rw [ef_3, va_up_ne _ _ (by omega)]; exact F_M i9 hi9), hzn, hT⟩
    exact x_iret hx hb hr hlocks hw ⟨rfl, z, zn, hRz, (fun y hy => by rw [ef_3, va_up_ne _ _ (by omega)])⟩ dX5_spoil_37
  · exact absurd hc_14 ho

abbrev rmX5_chain : Room := { frames := 5, cells := 0, slots := 0, locals := 119 }

set_option maxHeartbeats 4000000 in
set_option maxRecDepth 100000 in
theorem k_X5_chain_none (l : Launch) (D : va_G) (ca : Nat → ClassId) (N : Nat) (ad : Nat → Nat) (B tR tK : Nat) (f : Nat → va_E) (dd : xD N ad B) (hN : 302 ≤ N) (n : Nat → Nat) (g : Nat → Nat → Int32) (z : Nat → Nat → Int32) (zn : Nat) (tb : Nat → Int32) (hR : RepX ca ad n g z zn tb f)  (h5 : n 5 ≤ 200) (hall : ∀ i, i < n 5 → ∀ j, j < 8 → g (1000 + i) j = rowD (prevD (fun i => g (1000 + i)) i) (g 4 i) (g 5 i) (g 6 i) j) : xMi l yX5_chain wsX5_chain rmX5_chain [.ref (ad 0)] D ca N ad B tR tK f (fun r u => (-1) = r ∧ ∃ (z1 : Nat → Nat → Int32) (zn1 : Nat), RepX ca ad n g z1 zn1 tb u ∧ ∀ y, 302 ≤ y → u y = f y) := by
  refine x_open (cc := cX5_chain) (maxL := 1) (ret := (some .int)) (by decide) rfl (Nat.le_of_ble_eq_true rfl) ?_
  intro p e s m below meth c ls hx hb hml hown hts hr hlocks hnm hB hK hE hw hl
  have hown : s.vm.findClass RX5 = some m.cls := hown
  have hl : lv_has ls 1 [(0, .ref (ad 0))] := hl
  obtain ⟨c_0, c_1, c_2, c_3, c_4, c_5, c_6, c_7, c_8, c_9, c_90, c_91, c_92, c_93, c_94, c_95, c_96, c_97, c_98, c_99, c_300, c_301, F_kf, F_oc, F_va, F_lw, F_M, hzn, hT⟩ := hR
  have hin_6 : ∀ w ∈ u_ws RX5 TX5 13, w ∈ wsX5_chain := by decide +kernel
  have hf_57 := hts (.fieldLink RX5 57 "FixityRows" "rows" "LFixityRows$RowChain;") (by decide +kernel)
  have b_0 := c_0
  have b_1 := c_1
  have b_2 := c_2
  have b_3 := c_3
  have b_4 := c_4
  have b_5 := c_5
  have b_6 := c_6
  have b_7 := c_7
  have b_8 := c_8
  have b_9 := c_9
  have b_90 := c_90
  have b_91 := c_91
  have b_92 := c_92
  have b_93 := c_93
  have b_94 := c_94
  have b_95 := c_95
  have b_96 := c_96
  have b_97 := c_97
  have b_98 := c_98
  have b_99 := c_99
  have b_300 := c_300
  have b_301 := c_301
  refine lv_aload_n hx hb dX5_chain_0 rfl (lv_at hl 0 rfl) ?_
  refine x_get (ci := 6) (C := RX5) (T := TX5) (n := 13) (ref := RX5) hx hb hts hin_6 hown hK hw 0 (by omega) c_0 rfl 8 (by decide) hf_57 (fun _ h => h) rfl dX5_chain_1 ?_
  refine x_Vi (q := 90) (As := []) (rest := []) ⟨hx, hb, hml, hown, hts⟩ (k_X3_firstBroken_none l D ca N ad B tR tK f dd (n 5) (z 2) (z 3) zn (z 4) (g 4) (g 5) (g 6) (fun i => g (1000 + i)) c_90 c_91 c_92 c_93 c_94 c_95 c_96 c_97 c_98 c_99 F_M (by omega) (by omega) (by omega) hall) (cwV 0 hts gX5_chain_X3_firstBroken rfl rfl rfl (by decide +kernel) ⟨Nat.le_of_ble_eq_true rfl, Nat.le_of_ble_eq_true rfl⟩) hK hE hB hw (by omega) c_90 rfl rfl rfl rfl hl.1 (Nat.le_of_ble_eq_true rfl) ⟨Nat.zero_le _, Nat.zero_le _⟩ dX5_chain_4 (fun r_2 f_1 H locs hp hw => ?_)
  obtain ⟨s1_3, n1_4, w1_5, e1_6, hq_7, er, eu⟩ := hp
  rw [← er]
  have ef_1 : f_1 = va_up (va_up (va_up (va_up f 95 (ai (ca 0) 200 s1_3)) 94 (.inr (3, [.ref (ad 95), .int (nI n1_4)]))) 93 (ai (ca 0) 64 w1_5)) 92 (ai (ca 0) 8 e1_6) := eu
  have c_95 : f_1 95 = ai (ca 0) 200 s1_3 := by rw [ef_1, va_up_ne _ _ (by decide), va_up_ne _ _ (by decide), va_up_ne _ _ (by decide), va_up_self]
  have c_94 : f_1 94 = .inr (3, [.ref (ad 95), .int (nI n1_4)]) := by rw [ef_1, va_up_ne _ _ (by decide), va_up_ne _ _ (by decide), va_up_self]
  have c_93 : f_1 93 = ai (ca 0) 64 w1_5 := by rw [ef_1, va_up_ne _ _ (by decide), va_up_self]
  have c_92 : f_1 92 = ai (ca 0) 8 e1_6 := by rw [ef_1, va_up_self]
  have c_0 : f_1 0 = .inr (6, [.int (nI (n 0)), .ref (ad 1), .ref (ad 4), .ref (ad 6), .ref (ad 8), .int (nI (n 1)), .ref (ad 9), .int (nI (n 2)), .ref (ad 90), .ref (ad 300), .ref (ad 301), .int (nI (n 3)), .int (g 13 0)]) := by rw [ef_1, va_up_ne _ _ (by decide), va_up_ne _ _ (by decide), va_up_ne _ _ (by decide), va_up_ne _ _ (by decide)]; exact c_0
  have c_1 : f_1 1 = .inr (2, [.ref (ad 2), .ref (ad 3)]) := by rw [ef_1, va_up_ne _ _ (by decide), va_up_ne _ _ (by decide), va_up_ne _ _ (by decide), va_up_ne _ _ (by decide)]; exact c_1
  have c_2 : f_1 2 = ai (ca 0) 8 (z 0) := by rw [ef_1, va_up_ne _ _ (by decide), va_up_ne _ _ (by decide), va_up_ne _ _ (by decide), va_up_ne _ _ (by decide)]; exact c_2
  have c_3 : f_1 3 = ai (ca 0) 64 (z 1) := by rw [ef_1, va_up_ne _ _ (by decide), va_up_ne _ _ (by decide), va_up_ne _ _ (by decide), va_up_ne _ _ (by decide)]; exact c_3
  have c_4 : f_1 4 = .inr (5, [.ref (ad 5)]) := by rw [ef_1, va_up_ne _ _ (by decide), va_up_ne _ _ (by decide), va_up_ne _ _ (by decide), va_up_ne _ _ (by decide)]; exact c_4
  have c_5 : f_1 5 = ai (ca 0) 256 tb := by rw [ef_1, va_up_ne _ _ (by decide), va_up_ne _ _ (by decide), va_up_ne _ _ (by decide), va_up_ne _ _ (by decide)]; exact c_5
  have c_6 : f_1 6 = .inr (3, [.ref (ad 7), .int (nI (n 4))]) := by rw [ef_1, va_up_ne _ _ (by decide), va_up_ne _ _ (by decide), va_up_ne _ _ (by decide), va_up_ne _ _ (by decide)]; exact c_6
  have c_7 : f_1 7 = ai (ca 0) 200 (g 0) := by rw [ef_1, va_up_ne _ _ (by decide), va_up_ne _ _ (by decide), va_up_ne _ _ (by decide), va_up_ne _ _ (by decide)]; exact c_7
  have c_8 : f_1 8 = ai (ca 0) 8 (g 1) := by rw [ef_1, va_up_ne _ _ (by decide), va_up_ne _ _ (by decide), va_up_ne _ _ (by decide), va_up_ne _ _ (by decide)]; exact c_8
  have c_9 : f_1 9 = aq (ca 3) 20 (fun i => some (ad (10 + 4 * i))) := by rw [ef_1, va_up_ne _ _ (by decide), va_up_ne _ _ (by decide), va_up_ne _ _ (by decide), va_up_ne _ _ (by decide)]; exact c_9
  have c_90 : f_1 90 = .inr (4, [.ref (ad 91), .ref (ad 94), .ref (ad 96), .ref (ad 97), .ref (ad 98), .ref (ad 99), .int (nI (n 5))]) := by rw [ef_1, va_up_ne _ _ (by decide), va_up_ne _ _ (by decide), va_up_ne _ _ (by decide), va_up_ne _ _ (by decide)]; exact c_90
  have c_91 : f_1 91 = .inr (2, [.ref (ad 92), .ref (ad 93)]) := by rw [ef_1, va_up_ne _ _ (by decide), va_up_ne _ _ (by decide), va_up_ne _ _ (by decide), va_up_ne _ _ (by decide)]; exact c_91
  have c_96 : f_1 96 = ai (ca 0) 200 (g 4) := by rw [ef_1, va_up_ne _ _ (by decide), va_up_ne _ _ (by decide), va_up_ne _ _ (by decide), va_up_ne _ _ (by decide)]; exact c_96
  have c_97 : f_1 97 = ai (ca 0) 200 (g 5) := by rw [ef_1, va_up_ne _ _ (by decide), va_up_ne _ _ (by decide), va_up_ne _ _ (by decide), va_up_ne _ _ (by decide)]; exact c_97
  have c_98 : f_1 98 = ai (ca 0) 200 (g 6) := by rw [ef_1, va_up_ne _ _ (by decide), va_up_ne _ _ (by decide), va_up_ne _ _ (by decide), va_up_ne _ _ (by decide)]; exact c_98
  have c_99 : f_1 99 = aq (ca 4) 200 (fun i => some (ad (100 + i))) := by rw [ef_1, va_up_ne _ _ (by decide), va_up_ne _ _ (by decide), va_up_ne _ _ (by decide), va_up_ne _ _ (by decide)]; exact c_99
  have c_300 : f_1 300 = ai (ca 0) 20 (g 2) := by rw [ef_1, va_up_ne _ _ (by decide), va_up_ne _ _ (by decide), va_up_ne _ _ (by decide), va_up_ne _ _ (by decide)]; exact c_300
  have c_301 : f_1 301 = ai (ca 2) 20 (g 3) := by rw [ef_1, va_up_ne _ _ (by decide), va_up_ne _ _ (by decide), va_up_ne _ _ (by decide), va_up_ne _ _ (by decide)]; exact c_301
  have qz_0 : (va_up (va_up (va_up z 2 e1_6) 3 w1_5) 4 s1_3) 0 = z 0 := by rw [va_up_ne _ _ (by decide), va_up_ne _ _ (by decide), va_up_ne _ _ (by decide)]
  have qz_1 : (va_up (va_up (va_up z 2 e1_6) 3 w1_5) 4 s1_3) 1 = z 1 := by rw [va_up_ne _ _ (by decide), va_up_ne _ _ (by decide), va_up_ne _ _ (by decide)]
  have qz_2 : (va_up (va_up (va_up z 2 e1_6) 3 w1_5) 4 s1_3) 2 = e1_6 := by rw [va_up_ne _ _ (by decide), va_up_ne _ _ (by decide), va_up_self]
  have qz_3 : (va_up (va_up (va_up z 2 e1_6) 3 w1_5) 4 s1_3) 3 = w1_5 := by rw [va_up_ne _ _ (by decide), va_up_self]
  have qz_4 : (va_up (va_up (va_up z 2 e1_6) 3 w1_5) 4 s1_3) 4 = s1_3 := by rw [va_up_self]
  have hRz : RepX ca ad n g (va_up (va_up (va_up z 2 e1_6) 3 w1_5) 4 s1_3) n1_4 tb f_1 := ⟨c_0,
        c_1,
        (by rw [qz_0]; exact c_2),
        (by rw [qz_1]; exact c_3),
        c_4,
        c_5,
        c_6,
        c_7,
        c_8,
        c_9,
        c_90,
        c_91,
        (by rw [qz_2]; exact c_92),
        (by rw [qz_3]; exact c_93),
        c_94,
        (by rw [qz_4]; exact c_95),
        c_96,
        c_97,
        c_98,
        c_99,
        c_300,
        c_301,
        (fun i9 hi9 => by rw [ef_1, va_up_ne _ _ (by omega), va_up_ne _ _ (by omega), va_up_ne _ _ (by omega), va_up_ne _ _ (by omega)]; exact F_kf i9 hi9),
        (fun i9 hi9 => by rw [ef_1, va_up_ne _ _ (by omega), va_up_ne _ _ (by omega), va_up_ne _ _ (by omega), va_up_ne _ _ (by omega)]; exact F_oc i9 hi9),
        (fun i9 hi9 => by rw [ef_1, va_up_ne _ _ (by omega), va_up_ne _ _ (by omega), va_up_ne _ _ (by omega), va_up_ne _ _ (by omega)]; exact F_va i9 hi9),
        (fun i9 hi9 => by rw [ef_1, va_up_ne _ _ (by omega), va_up_ne _ _ (by omega), va_up_ne _ _ (by omega), va_up_ne _ _ (by omega)]; exact F_lw i9 hi9),
        (fun i9 hi9 => by rw [ef_1, va_up_ne _ _ (by omega), va_up_ne _ _ (by omega), va_up_ne _ _ (by omega), va_up_ne _ _ (by omega)]; exact F_M i9 hi9), (by first | omega | assumption), hT⟩
  exact x_iret hx hb hr hlocks hw ⟨rfl, va_up (va_up (va_up z 2 e1_6) 3 w1_5) 4 s1_3, n1_4, hRz, (fun y hy => by rw [ef_1, va_up_ne _ _ (by omega), va_up_ne _ _ (by omega), va_up_ne _ _ (by omega), va_up_ne _ _ (by omega)])⟩ dX5_chain_7

set_option maxHeartbeats 4000000 in
set_option maxRecDepth 100000 in
theorem k_X5_chain_some (l : Launch) (D : va_G) (ca : Nat → ClassId) (N : Nat) (ad : Nat → Nat) (B tR tK : Nat) (f : Nat → va_E) (dd : xD N ad B) (hN : 302 ≤ N) (n : Nat → Nat) (g : Nat → Nat → Int32) (z : Nat → Nat → Int32) (zn : Nat) (tb : Nat → Int32) (hR : RepX ca ad n g z zn tb f) (b : Nat) (h5 : n 5 ≤ 200) (hb9 : b < n 5) (hall : ∀ i, i < b → ∀ j, j < 8 → g (1000 + i) j = rowD (prevD (fun i => g (1000 + i)) i) (g 4 i) (g 5 i) (g 6 i) j) (hbad : ∃ j, j < 8 ∧ g (1000 + b) j ≠ rowD (prevD (fun i => g (1000 + i)) b) (g 4 b) (g 5 b) (g 6 b) j) : xMi l yX5_chain wsX5_chain rmX5_chain [.ref (ad 0)] D ca N ad B tR tK f (fun r u => nI b = r ∧ ∃ (z1 : Nat → Nat → Int32) (zn1 : Nat), RepX ca ad n g z1 zn1 tb u ∧ ∀ y, 302 ≤ y → u y = f y) := by
  refine x_open (cc := cX5_chain) (maxL := 1) (ret := (some .int)) (by decide) rfl (Nat.le_of_ble_eq_true rfl) ?_
  intro p e s m below meth c ls hx hb hml hown hts hr hlocks hnm hB hK hE hw hl
  have hown : s.vm.findClass RX5 = some m.cls := hown
  have hl : lv_has ls 1 [(0, .ref (ad 0))] := hl
  obtain ⟨c_0, c_1, c_2, c_3, c_4, c_5, c_6, c_7, c_8, c_9, c_90, c_91, c_92, c_93, c_94, c_95, c_96, c_97, c_98, c_99, c_300, c_301, F_kf, F_oc, F_va, F_lw, F_M, hzn, hT⟩ := hR
  have hin_6 : ∀ w ∈ u_ws RX5 TX5 13, w ∈ wsX5_chain := by decide +kernel
  have hf_57 := hts (.fieldLink RX5 57 "FixityRows" "rows" "LFixityRows$RowChain;") (by decide +kernel)
  have b_0 := c_0
  have b_1 := c_1
  have b_2 := c_2
  have b_3 := c_3
  have b_4 := c_4
  have b_5 := c_5
  have b_6 := c_6
  have b_7 := c_7
  have b_8 := c_8
  have b_9 := c_9
  have b_90 := c_90
  have b_91 := c_91
  have b_92 := c_92
  have b_93 := c_93
  have b_94 := c_94
  have b_95 := c_95
  have b_96 := c_96
  have b_97 := c_97
  have b_98 := c_98
  have b_99 := c_99
  have b_300 := c_300
  have b_301 := c_301
  refine lv_aload_n hx hb dX5_chain_0 rfl (lv_at hl 0 rfl) ?_
  refine x_get (ci := 6) (C := RX5) (T := TX5) (n := 13) (ref := RX5) hx hb hts hin_6 hown hK hw 0 (by omega) c_0 rfl 8 (by decide) hf_57 (fun _ h => h) rfl dX5_chain_1 ?_
  refine x_Vi (q := 90) (As := []) (rest := []) ⟨hx, hb, hml, hown, hts⟩ (k_X3_firstBroken_some l D ca N ad B tR tK f dd (n 5) (z 2) (z 3) zn (z 4) (g 4) (g 5) (g 6) (fun i => g (1000 + i)) b c_90 c_91 c_92 c_93 c_94 c_95 c_96 c_97 c_98 c_99 F_M (by omega) (by omega) (by omega) (by omega) hall hbad) (cwV 0 hts gX5_chain_X3_firstBroken rfl rfl rfl (by decide +kernel) ⟨Nat.le_of_ble_eq_true rfl, Nat.le_of_ble_eq_true rfl⟩) hK hE hB hw (by omega) c_90 rfl rfl rfl rfl hl.1 (Nat.le_of_ble_eq_true rfl) ⟨Nat.zero_le _, Nat.zero_le _⟩ dX5_chain_4 (fun r_2 f_1 H locs hp hw => ?_)
  obtain ⟨s1_3, n1_4, w1_5, e1_6, hq_7, er, eu⟩ := hp
  rw [← er]
  have ef_1 : f_1 = va_up (va_up (va_up (va_up f 95 (ai (ca 0) 200 s1_3)) 94 (.inr (3, [.ref (ad 95), .int (nI n1_4)]))) 93 (ai (ca 0) 64 w1_5)) 92 (ai (ca 0) 8 e1_6) := eu
  have c_95 : f_1 95 = ai (ca 0) 200 s1_3 := by rw [ef_1, va_up_ne _ _ (by decide), va_up_ne _ _ (by decide), va_up_ne _ _ (by decide), va_up_self]
  have c_94 : f_1 94 = .inr (3, [.ref (ad 95), .int (nI n1_4)]) := by rw [ef_1, va_up_ne _ _ (by decide), va_up_ne _ _ (by decide), va_up_self]
  have c_93 : f_1 93 = ai (ca 0) 64 w1_5 := by rw [ef_1, va_up_ne _ _ (by decide), va_up_self]
  have c_92 : f_1 92 = ai (ca 0) 8 e1_6 := by rw [ef_1, va_up_self]
  have c_0 : f_1 0 = .inr (6, [.int (nI (n 0)), .ref (ad 1), .ref (ad 4), .ref (ad 6), .ref (ad 8), .int (nI (n 1)), .ref (ad 9), .int (nI (n 2)), .ref (ad 90), .ref (ad 300), .ref (ad 301), .int (nI (n 3)), .int (g 13 0)]) := by rw [ef_1, va_up_ne _ _ (by decide), va_up_ne _ _ (by decide), va_up_ne _ _ (by decide), va_up_ne _ _ (by decide)]; exact c_0
  have c_1 : f_1 1 = .inr (2, [.ref (ad 2), .ref (ad 3)]) := by rw [ef_1, va_up_ne _ _ (by decide), va_up_ne _ _ (by decide), va_up_ne _ _ (by decide), va_up_ne _ _ (by decide)]; exact c_1
  have c_2 : f_1 2 = ai (ca 0) 8 (z 0) := by rw [ef_1, va_up_ne _ _ (by decide), va_up_ne _ _ (by decide), va_up_ne _ _ (by decide), va_up_ne _ _ (by decide)]; exact c_2
  have c_3 : f_1 3 = ai (ca 0) 64 (z 1) := by rw [ef_1, va_up_ne _ _ (by decide), va_up_ne _ _ (by decide), va_up_ne _ _ (by decide), va_up_ne _ _ (by decide)]; exact c_3
  have c_4 : f_1 4 = .inr (5, [.ref (ad 5)]) := by rw [ef_1, va_up_ne _ _ (by decide), va_up_ne _ _ (by decide), va_up_ne _ _ (by decide), va_up_ne _ _ (by decide)]; exact c_4
  have c_5 : f_1 5 = ai (ca 0) 256 tb := by rw [ef_1, va_up_ne _ _ (by decide), va_up_ne _ _ (by decide), va_up_ne _ _ (by decide), va_up_ne _ _ (by decide)]; exact c_5
  have c_6 : f_1 6 = .inr (3, [.ref (ad 7), .int (nI (n 4))]) := by rw [ef_1, va_up_ne _ _ (by decide), va_up_ne _ _ (by decide), va_up_ne _ _ (by decide), va_up_ne _ _ (by decide)]; exact c_6
  have c_7 : f_1 7 = ai (ca 0) 200 (g 0) := by rw [ef_1, va_up_ne _ _ (by decide), va_up_ne _ _ (by decide), va_up_ne _ _ (by decide), va_up_ne _ _ (by decide)]; exact c_7
  have c_8 : f_1 8 = ai (ca 0) 8 (g 1) := by rw [ef_1, va_up_ne _ _ (by decide), va_up_ne _ _ (by decide), va_up_ne _ _ (by decide), va_up_ne _ _ (by decide)]; exact c_8
  have c_9 : f_1 9 = aq (ca 3) 20 (fun i => some (ad (10 + 4 * i))) := by rw [ef_1, va_up_ne _ _ (by decide), va_up_ne _ _ (by decide), va_up_ne _ _ (by decide), va_up_ne _ _ (by decide)]; exact c_9
  have c_90 : f_1 90 = .inr (4, [.ref (ad 91), .ref (ad 94), .ref (ad 96), .ref (ad 97), .ref (ad 98), .ref (ad 99), .int (nI (n 5))]) := by rw [ef_1, va_up_ne _ _ (by decide), va_up_ne _ _ (by decide), va_up_ne _ _ (by decide), va_up_ne _ _ (by decide)]; exact c_90
  have c_91 : f_1 91 = .inr (2, [.ref (ad 92), .ref (ad 93)]) := by rw [ef_1, va_up_ne _ _ (by decide), va_up_ne _ _ (by decide), va_up_ne _ _ (by decide), va_up_ne _ _ (by decide)]; exact c_91
  have c_96 : f_1 96 = ai (ca 0) 200 (g 4) := by rw [ef_1, va_up_ne _ _ (by decide), va_up_ne _ _ (by decide), va_up_ne _ _ (by decide), va_up_ne _ _ (by decide)]; exact c_96
  have c_97 : f_1 97 = ai (ca 0) 200 (g 5) := by rw [ef_1, va_up_ne _ _ (by decide), va_up_ne _ _ (by decide), va_up_ne _ _ (by decide), va_up_ne _ _ (by decide)]; exact c_97
  have c_98 : f_1 98 = ai (ca 0) 200 (g 6) := by rw [ef_1, va_up_ne _ _ (by decide), va_up_ne _ _ (by decide), va_up_ne _ _ (by decide), va_up_ne _ _ (by decide)]; exact c_98
  have c_99 : f_1 99 = aq (ca 4) 200 (fun i => some (ad (100 + i))) := by rw [ef_1, va_up_ne _ _ (by decide), va_up_ne _ _ (by decide), va_up_ne _ _ (by decide), va_up_ne _ _ (by decide)]; exact c_99
  have c_300 : f_1 300 = ai (ca 0) 20 (g 2) := by rw [ef_1, va_up_ne _ _ (by decide), va_up_ne _ _ (by decide), va_up_ne _ _ (by decide), va_up_ne _ _ (by decide)]; exact c_300
  have c_301 : f_1 301 = ai (ca 2) 20 (g 3) := by rw [ef_1, va_up_ne _ _ (by decide), va_up_ne _ _ (by decide), va_up_ne _ _ (by decide), va_up_ne _ _ (by decide)]; exact c_301
  have qz_0 : (va_up (va_up (va_up z 2 e1_6) 3 w1_5) 4 s1_3) 0 = z 0 := by rw [va_up_ne _ _ (by decide), va_up_ne _ _ (by decide), va_up_ne _ _ (by decide)]
  have qz_1 : (va_up (va_up (va_up z 2 e1_6) 3 w1_5) 4 s1_3) 1 = z 1 := by rw [va_up_ne _ _ (by decide), va_up_ne _ _ (by decide), va_up_ne _ _ (by decide)]
  have qz_2 : (va_up (va_up (va_up z 2 e1_6) 3 w1_5) 4 s1_3) 2 = e1_6 := by rw [va_up_ne _ _ (by decide), va_up_ne _ _ (by decide), va_up_self]
  have qz_3 : (va_up (va_up (va_up z 2 e1_6) 3 w1_5) 4 s1_3) 3 = w1_5 := by rw [va_up_ne _ _ (by decide), va_up_self]
  have qz_4 : (va_up (va_up (va_up z 2 e1_6) 3 w1_5) 4 s1_3) 4 = s1_3 := by rw [va_up_self]
  have hRz : RepX ca ad n g (va_up (va_up (va_up z 2 e1_6) 3 w1_5) 4 s1_3) n1_4 tb f_1 := ⟨c_0,
        c_1,
        (by rw [qz_0]; exact c_2),
        (by rw [qz_1]; exact c_3),
        c_4,
        c_5,
        c_6,
        c_7,
        c_8,
        c_9,
        c_90,
        c_91,
        (by rw [qz_2]; exact c_92),
        (by rw [qz_3]; exact c_93),
        c_94,
        (by rw [qz_4]; exact c_95),
        c_96,
        c_97,
        c_98,
        c_99,
        c_300,
        c_301,
        (fun i9 hi9 => by rw [ef_1, va_up_ne _ _ (by omega), va_up_ne _ _ (by omega), va_up_ne _ _ (by omega), va_up_ne _ _ (by omega)]; exact F_kf i9 hi9),
        (fun i9 hi9 => by rw [ef_1, va_up_ne _ _ (by omega), va_up_ne _ _ (by omega), va_up_ne _ _ (by omega), va_up_ne _ _ (by omega)]; exact F_oc i9 hi9),
        (fun i9 hi9 => by rw [ef_1, va_up_ne _ _ (by omega), va_up_ne _ _ (by omega), va_up_ne _ _ (by omega), va_up_ne _ _ (by omega)]; exact F_va i9 hi9),
        (fun i9 hi9 => by rw [ef_1, va_up_ne _ _ (by omega), va_up_ne _ _ (by omega), va_up_ne _ _ (by omega), va_up_ne _ _ (by omega)]; exact F_lw i9 hi9),
        (fun i9 hi9 => by rw [ef_1, va_up_ne _ _ (by omega), va_up_ne _ _ (by omega), va_up_ne _ _ (by omega), va_up_ne _ _ (by omega)]; exact F_M i9 hi9), (by first | omega | assumption), hT⟩
  exact x_iret hx hb hr hlocks hw ⟨rfl, va_up (va_up (va_up z 2 e1_6) 3 w1_5) 4 s1_3, n1_4, hRz, (fun y hy => by rw [ef_1, va_up_ne _ _ (by omega), va_up_ne _ _ (by omega), va_up_ne _ _ (by omega), va_up_ne _ _ (by omega)])⟩ dX5_chain_7
end
