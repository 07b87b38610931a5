/-! ===== at(), where there is no such byte: a new exception leaves it ===== -/
def xNm : List String := ["java/lang/IndexOutOfBoundsException", "java/lang/RuntimeException", "java/lang/Exception"]
def xTx : String := "no such byte of a digest"
/-- a static field of Throwable that holds a reference (or null), in a cell below B -/
def zL (n d : String) (B : Nat) (U : State) (H : Heap) : Prop := ∃ (c : ClassId) (k : Class) (i : Nat) (f : Field) (a : Nat) (cell : Cell) (v : Value), U.vm.findClass Bundle.tN = some c ∧ U.fieldFound? Bundle.tN n d = some (c, k, i, f) ∧ f.isStatic = true ∧ k.statics = some a ∧ H[a]? = some cell ∧ cell.vm.isStatics = true ∧ cell.cls = c ∧ f.slot < cell.slots.size ∧ k.staticTypes[f.slot]? = some f.type ∧ a < B ∧ cell.slots[f.slot]? = some v ∧ v.isRef = true
theorem zL.go {n d : String} {B : Nat} {u U : State} {H H1 : Heap} (hvm : u.vm.Alike U.vm) (hq : ∀ q : Nat, q < B → q < H.size → H1[q]? = H[q]?) (h : zL n d B u H) : zL n d B U H1 := by
  obtain ⟨c, k, i, f, a, cell, v, h1, h2, h3, h4, h5, h6, h7, h8, h9, h10, h11, h12⟩ := h
  obtain ⟨k', hi', he⟩ := State.fieldFound?_setVm hvm h2
  exact ⟨c, k', i, f, a, cell, v, by rw [hvm.findClass]; exact h1, hi', h3, by rw [he]; exact h4, by rw [hq a h10 (Array.getElem?_eq_some_iff.mp h5).1]; exact h5, h6, h7, h8, by rw [he]; exact h9, h10, h11, h12⟩
theorem zL.eval {n d : String} {B : Nat} {s : State} {args : Array Value} (h : zL n d B s s.heap) : ∃ v : Value, (Term.static Bundle.tN n d).eval args s none [] s = some v ∧ v.isRef = true := by
  obtain ⟨c, k, i, f, a, cell, v, h1, h2, h3, h4, h5, h6, h7, h8, h9, h10, h11, h12⟩ := h
  exact ⟨v, by simp [Term.eval, State.fieldNamed?, h2, h3, h4, h5, h6, h11], h12⟩
theorem zL.isRef {n d : String} {B : Nat} {s : State} {args : Array Value} (h : zL n d B s s.heap) : (Cond.isRef (.static Bundle.tN n d)).before args s = true := by
  obtain ⟨v, he, hv⟩ := h.eval (args := args)
  simp only [Cond.before, Cond.holds, Cond.value, he]
  cases v <;> simp_all [Value.isRef]
theorem zL.lays {n d : String} {B : Nat} {s : State} {args : Array Value} (h : zL n d B s s.heap) : (Cond.laysStatic Bundle.tN n d).before args s = true := by
  obtain ⟨c, k, i, f, a, cell, v, h1, h2, h3, h4, h5, h6, h7, h8, h9, -, -, -⟩ := h
  show (Cond.laysStatic Bundle.tN n d).holds args s none s [] = true
  exact Cond.laysStatic_of h1 h2 h3 h4 h5 h6 h7 h8 h9
theorem zL.of {n d : String} {B : Nat} {s : State} {args : Array Value} (hl : (Cond.laysStatic Bundle.tN n d).before args s = true) (hr : (Cond.isRef (.static Bundle.tN n d)).before args s = true) (hB : s.heap.size ≤ B) : zL n d B s s.heap := by
  obtain ⟨c, k, i, f, a, cell, h1, h2, h3, h4, h5, h6, h7, h8, h9⟩ := Cond.laysStatic_spec hl
  have h11 : cell.slots[f.slot]? = some (cell.slots[f.slot]'h8) := Array.getElem?_eq_getElem h8
  refine ⟨c, k, i, f, a, cell, _, h1, h2, h3, h4, h5, h6, h7, h8, h9, Nat.lt_of_lt_of_le (Array.getElem?_eq_some_iff.mp h5).1 hB, h11, ?_⟩
  have he : (Term.static Bundle.tN n d).eval args s none [] s = some (cell.slots[f.slot]'h8) := by
    simp [Term.eval, State.fieldNamed?, h2, h3, h4, h5, h6, h11]
  simp only [Cond.before, Cond.holds, Cond.value, he] at hr
  revert hr
  cases cell.slots[f.slot]'h8 <;> simp [Value.isRef]
/-- words that a warmer table keeps, one by one -/
def xW : List Cond := [.castable RJx00060 RJx00060, .declares (Bundle.initS "java/lang/IndexOutOfBoundsException"), .declares (Bundle.initS "java/lang/RuntimeException"), .declares (Bundle.initS "java/lang/Exception"), .declares (Bundle.initS Bundle.tN)]
theorem xW_warm {s U : State} (hW : s.WarmedH U.vm) (h : ∀ w ∈ xW, va_Nw w s) : ∀ w ∈ xW, va_Nw w U := by
  intro w hw
  have h1 := h w hw
  unfold xW at hw
  simp only [List.mem_cons, List.not_mem_nil, or_false] at hw
  rcases hw with rfl | rfl | rfl | rfl | rfl
  · exact va_Nw.warmC hW h1
  · exact va_Nw.warmD hW h1
  · exact va_Nw.warmD hW h1
  · exact va_Nw.warmD hW h1
  · exact va_Nw.warmD hW h1
theorem xW_tab : ∀ w ∈ xW, w.onTables = true := by decide +kernel
/-- what a throw takes as given, beside the tables -/
def xZ (B sa : Nat) (U : State) : Prop := (zL "UNASSIGNED_STACK" Bundle.steD B U U.heap ∧ zL "SUPPRESSED_SENTINEL" Bundle.listD B U U.heap) ∧ vk_R RX5 91 xTx sa U ∧ ∀ w ∈ xW, va_Nw w U
theorem xZ.warm {B sa : Nat} {s U : State} (hW : s.WarmedH U.vm) (hq : ∀ q : Nat, q < B → q < s.heap.size → U.heap[q]? = s.heap[q]?) (h : xZ B sa s) : xZ B sa U := ⟨⟨h.1.1.go hW.alike hq, h.1.2.go hW.alike hq⟩, vk_R.warm hW h.2.1, xW_warm hW h.2.2⟩
theorem xZ.calling {B sa : Nat} {U : State} (h : xZ B sa U) (g : JFrame) (mk : MethodId) (a : Array Value) : xZ B sa (U.calling g mk a) := ⟨⟨h.1.1.go (u := U) (U := U.calling g mk a) (Vm.Alike.refl U.vm) (fun _ _ _ => rfl), h.1.2.go (u := U) (U := U.calling g mk a) (Vm.Alike.refl U.vm) (fun _ _ _ => rfl)⟩, vk_R.same (u := U) rfl h.2.1, fun w hw => va_Nw.same (u := U) (xW_tab w hw) rfl (h.2.2 w hw)⟩
/-- the words of the tables among what a throw asks -/
def xno (w : Cond) : Bool := !decide (w = .isRef (.static Bundle.tN "UNASSIGNED_STACK" Bundle.steD)) && (!decide (w = .isRef (.static Bundle.tN "SUPPRESSED_SENTINEL" Bundle.listD)) && (!decide (w = .laysStatic Bundle.tN "UNASSIGNED_STACK" Bundle.steD) && !decide (w = .laysStatic Bundle.tN "SUPPRESSED_SENTINEL" Bundle.listD)))
def atA : List Cond := (Bundle.ownAtoms RX5 93 RJx00060 xNm).filter xno
def atW : List Cond := atA.filter goodWord
theorem atA_rest : ∀ w ∈ atA.filter (fun w => !goodWord w), w ∈ xW := by decide +kernel
theorem atW_own {B sa : Nat} {s : State} {args : Array Value} (h : ∀ w ∈ atW, w.before args s = true) (hZ : xZ B sa s) : ∀ w ∈ Bundle.ownAtoms RX5 93 RJx00060 xNm, w.before args s = true := by
  intro w hw
  by_cases e1 : w = .isRef (.static Bundle.tN "UNASSIGNED_STACK" Bundle.steD)
  · rw [e1]
    exact hZ.1.1.isRef
  · by_cases e2 : w = .isRef (.static Bundle.tN "SUPPRESSED_SENTINEL" Bundle.listD)
    · rw [e2]
      exact hZ.1.2.isRef
    · by_cases e3 : w = .laysStatic Bundle.tN "UNASSIGNED_STACK" Bundle.steD
      · rw [e3]
        exact hZ.1.1.lays
      · by_cases e4 : w = .laysStatic Bundle.tN "SUPPRESSED_SENTINEL" Bundle.listD
        · rw [e4]
          exact hZ.1.2.lays
        · have hA : w ∈ atA := by
            refine List.mem_filter.mpr ⟨hw, ?_⟩
            unfold xno
            rw [decide_eq_false e1, decide_eq_false e2, decide_eq_false e3, decide_eq_false e4]
            rfl
          by_cases hg : goodWord w = true
          · exact h w (List.mem_filter.mpr ⟨hA, hg⟩)
          · have hx := atA_rest w (List.mem_filter.mpr ⟨hA, by rw [Bool.eq_false_iff.mpr hg]; rfl⟩)
            exact va_Nw.use (xW_tab w hx) (hZ.2.2 w hx)
def wsX5_atT : List Cond := .code yX5_at cX5_at 2 (some .int) :: ([.fieldLink RX5 83 "FixityRows" "latestLength" "I", .classLink RX5 89 RJx00060, .initialized RJx00060] ++ (wsX50 ++ atW))
abbrev rmX5_atT : Room := { frames := 7, cells := 1, slots := 6, locals := 120 }
/-- the end of a method that throws a new exception, and nothing else -/
def xThr : Array Value → State → Outcome → State → Prop := fun _ s o t => ∃ q : Addr, o = .threw q ∧ (∃ ce : Cell, t.heap[q]? = some ce ∧ ce.vm = .none ∧ s.vm.findClass RJx00060 = some ce.cls) ∧ s.WarmedH t.vm ∧ s.sameButNew ({ t with vm := s.vm } : State) [] 1 6
def xPreT (av : List Value) (D : va_G) (ca : Nat → ClassId) (N : Nat) (ad : Nat → Nat) (B sa : Nat) (f : Nat → va_E) : Array Value → State → Prop := va_Pc av (fun U => (B ≤ U.heap.size ∧ va_P D vwCl (wd N ad f) U.heap ∧ va_K D vwCl (xT ca) U) ∧ xZ B sa U)
theorem xPreT.blind (av : List Value) (D : va_G) (ca : Nat → ClassId) (N : Nat) (ad : Nat → Nat) (B sa : Nat) (f : Nat → va_E) : FrameBlind (xPreT av D ca N ad B sa f) := by
  intro a U g mk h
  obtain ⟨h1, ⟨h2, h3, h4⟩, h5⟩ := h
  exact ⟨h1, ⟨h2, h3, va_K.moved (u := U) (U := U.calling g mk a) (Vm.Alike.refl U.vm) h4⟩, h5.calling g mk a⟩
section TH
variable {p : Program} {l : Launch} {e : Env} {R : Room} {s : State} {m : MethodId} {args : Array Value} {below : List Frame} {meth : Method} {c : Code}
set_option maxHeartbeats 1000000 in
theorem x_throw {cc : ByteArray} {ls : Array Slot} {B sa : Nat} (hx : p.tables.exec = Jvm.exec) (hb : c.code = cc) (hl : l.stackTraces = false) (hown : s.vm.findClass RX5 = some m.cls) (hat : ∀ w ∈ atW, w.before args s = true) (hZ : xZ B sa s) (hk : (Cond.classLink RX5 89 RJx00060).before args s = true) (hini : (Cond.initialized RJx00060).before args s = true) (hsize : ls.size = c.maxLocals) (hout : c.exceptionTable.toList = []) (hlocks : meth.locks = false)
    (hf : 6 < R.frames) (hlo : 1 + (13 * 4 + 42) ≤ R.locals) (hc : 1 ≤ R.cells) (hs : 6 ≤ R.slots) {pc : Nat} (d0 : decode cc pc = .ok (.new 89, 3)) (d3 : decode cc (pc + 3) = .ok (.dup, 1)) (d4 : decode cc (pc + 4) = .ok (.ldc 91, 2)) (d6 : decode cc (pc + 6) = .ok (.invokespecial 93, 3)) (d9 : decode cc (pc + 9) = .ok (.athrow, 1)) :
    W p l e R s m args below meth c s.heap [] 0 0 (fun t => ∃ o, t.status = .running ∧ Ended t below o ∧ xThr args s o t) (F0 m pc ls []) := by
  intro T hT X
  have htr : e.platform.stackTraces = false := (show e.platform.stackTraces = l.stackTraces by rw [X.admits.platform]).trans hl
  have hA := atW_own hat hZ
  have hins : (Cond.instantiable RJx00060 6).before args s = true := hA _ (by simp [Bundle.ownAtoms])
  obtain ⟨vm1, cX, kX, hfX, hkX, -, -, X1, st1⟩ := X.newCold hx (own := RX5) (C := RJx00060) (index := 89) (n := 6) hown hk hins hini (g := F0 m pc ls []) rfl (by rw [hb]; exact d0) (by omega) (by omega)
  generalize hT1 : (T.setVm vm1).pushCell { cls := cX, slots := kX.instanceTypes.map defaultValue, vm := .none } = T1 at X1 st1
  have hcell : T1.heap[T.heap.size]? = some (freshCell cX kX) := by
    rw [← hT1]
    exact State.heap_pushCell_size _ _
  have d3' : decode c.code (pc + 3) = .ok (.dup, 1) := by rw [hb]; exact d3
  have d4' : decode c.code (pc + 4) = .ok (.ldc 91, 2) := by rw [hb]; exact d4
  obtain ⟨U, hsteps, hrun, hend, hW, hsame, ce, hce, hO⟩ := X1.ctorThrowS hx htr (own := RX5) (cls := RJx00060) (names := xNm) (ic := 93) hown (by decide +kernel) (by decide +kernel) hA (fun y hy => nomatch hy) hfX hkX hcell (by rw [hT]; exact Nat.le_refl _) (msg := .ref sa) rfl
    (g := { method := m, pc := pc + 6, locals := ls, stack := .ref sa :: .ref T.heap.size :: .ref T.heap.size :: [], locked := none }) rfl hsize rfl rfl (rest := []) rfl (by rw [hb]; exact d6) (by rw [hb]; exact d9) (by rw [hout]; exact fun y hy => nomatch hy) (by simp only [xNm, List.length_cons, List.length_nil]; omega) (by simp only [xNm, List.length_cons, List.length_nil, List.map_cons, List.map_nil, List.sum_cons, List.sum_nil]; show 2 * 0 + (1 + 0) + _ ≤ _; omega) hlocks
  refine ⟨U, ?_, .threw T.heap.size, hrun, hend, T.heap.size, rfl, ⟨ce, hce, hO.vm, hO.cls⟩, hW, by simpa using hsame⟩
  refine st1 _ ?_
  show Steps p.tables e below (T1.setTop { method := m, pc := pc + 3, locals := ls, stack := .ref T.heap.size :: [], locked := none }) _
  jvm_step X1.here [X1.here.top, hx, d3', Value.category]
  exact X1.ldcString hx (own := RX5) (text := xTx) (index := 91) (a := sa) hown hZ.2.1.1 hZ.2.1.2 (g := { method := m, pc := pc + 4, locals := ls, stack := .ref T.heap.size :: .ref T.heap.size :: [], locked := none }) rfl d4' _ hsteps
end TH
set_option maxHeartbeats 4000000 in
set_option maxRecDepth 100000 in
theorem k_X5_at_out (l : Launch) (hlt : l.stackTraces = false) (D : va_G) (ca : Nat → ClassId) (N : Nat) (ad : Nat → Nat) (B sa : Nat) (f : Nat → va_E) (hN : 302 ≤ N) (n : Nat → Nat) (g : Nat → Nat → Int32) (z : Nat → Nat → Int32) (zn : Nat) (tb : Nat → Int32) (hR : RepX ca ad n g z zn tb f) (x : Int32) (ho : x < 0 ∨ nI (n 1) ≤ x) : MetFree l yX5_at (headSpec wsX5_atT rmX5_atT) (xPreT [.ref (ad 0), .int x] D ca N ad B sa f) (fun _ _ _ _ _ => True) xThr := by
  refine MetFree.of_bodyS (code := cX5_at) (maxLocals := 2) (ret := some .int) (by decide) ?_ ?_
  · intro args s m h hn
    obtain ⟨meth, c, h1, h2, h3, h4, h5, h6, -, -⟩ := Cond.code_spec hn (atoms_spec (ws := wsX5_atT) h _ List.mem_cons_self)
    exact ⟨meth, c, h1, h2, h3, h4, h5, h6⟩
  · intro p e s m args below meth c s₁ Bd hml hv _
    obtain ⟨rfl, ⟨hB, hP, hK⟩, hZ⟩ := hv
    have hx : p.tables.exec = Jvm.exec := Bd.exec
    have hb : c.code = cX5_at := Bd.bytes
    have hts : ∀ w ∈ wsX5_atT, w.before ([.ref (ad 0), .int x] : List Value).toArray s = true := atoms_spec (ws := wsX5_atT) Bd.pre
    have hown : s.vm.findClass RX5 = some m.cls := findClass_of_methodNamed Bd.named
    have hl := lv_entry ([.ref (ad 0), .int x] : List Value) (n := 2) (Nat.le_of_ble_eq_true rfl)
    have hw : xw D vwCl N ad B s.heap f s.heap [] := ⟨hP, va_S.rf⟩
    have hin_6 : ∀ w ∈ u_ws RX5 TX5 13, w ∈ wsX5_atT := fun w h => List.mem_cons_of_mem _ (List.mem_append_right _ (List.mem_append_left _ h))
    have hf_83 := hts (.fieldLink RX5 83 "FixityRows" "latestLength" "I") (List.mem_cons_of_mem _ (List.mem_append_left _ (by simp)))
    have hat : ∀ w ∈ atW, w.before ([.ref (ad 0), .int x] : List Value).toArray s = true := fun w h => hts w (List.mem_cons_of_mem _ (List.mem_append_right _ (List.mem_append_right _ h)))
    have hemp : c.exceptionTable.toList = [] := by
      have h1 := Bd.noHandlers (hts _ List.mem_cons_self)
      simpa using h1
    have c_0 := hR.1
    have K : W p l e rmX5_atT s m ([.ref (ad 0), .int x] : List Value).toArray below meth c s.heap [] 0 0 (fun t => ∃ o, t.status = .running ∧ Ended t below o ∧ xThr ([.ref (ad 0), .int x] : List Value).toArray s o t) (entryFrame m ([.ref (ad 0), .int x] : List Value).toArray 2) := by
      rw [lg_entry_eq]
      have hT : ∀ ls : Array Slot, ls.size = 2 → W p l e rmX5_atT s m ([.ref (ad 0), .int x] : List Value).toArray below meth c s.heap [] 0 0 (fun t => ∃ o, t.status = .running ∧ Ended t below o ∧ xThr ([.ref (ad 0), .int x] : List Value).toArray s o t) (F0 m 12 ls []) := fun ls hls => x_throw hx hb hlt hown hat hZ (hts (.classLink RX5 89 RJx00060) (List.mem_cons_of_mem _ (List.mem_append_left _ (by simp)))) (hts (.initialized RJx00060) (List.mem_cons_of_mem _ (List.mem_append_left _ (by simp)))) (hls.trans hml.symm) hemp Bd.notSynchronized (by decide) (by decide) (by decide) (by decide) dX5_at_12 dX5_at_15 dX5_at_16 dX5_at_18 dX5_at_21
      refine lv_iload_n hx hb dX5_at_0 rfl (lv_at hl 1 rfl) ?_
      refine lv_if_lt (tgt := 12) hx hb dX5_at_1 (by decide) (fun _ => hT _ hl.1) (fun c1 => ?_)
      refine lv_iload_n hx hb dX5_at_4 rfl (lv_at hl 1 rfl) ?_
      refine lv_aload_n hx hb dX5_at_5 rfl (lv_at hl 0 rfl) ?_
      refine x_get (ci := 6) (C := RX5) (T := TX5) (n := 13) (ref := RX5) hx hb hts hin_6 hown hK hw 0 (by omega) c_0 rfl 5 (by decide) hf_83 (fun _ h => h) rfl dX5_at_6 ?_
      refine lv_icmp_lt (tgt := 22) hx hb dX5_at_9 (by decide) (fun c9 => ?_) (fun c9 => hT _ hl.1)
      exact absurd ho (fun q => q.elim c1 (fun q => absurd (Int32.lt_of_lt_of_le c9 q) (Int32.lt_irrefl)))
    obtain ⟨t, a1, o, b1, b2, b3⟩ := K s₁ (by rw [Bd.state]; rfl) (Stand.of_body Bd)
    exact ⟨t, o, a1, b1, b2, b3⟩
