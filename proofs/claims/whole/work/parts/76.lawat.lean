/-! ===== the law's two helpers: cell(s, k), at(x, i, out) ===== -/
section LA
variable {p : Program} {l : Launch} {e : Env} {R : Room} {s : State} {m : MethodId} {args : Array Value} {below : List Frame} {meth : Method} {c : Code} {H : Heap} {locs : List Loc} {cells slots : Nat} {Q : State → Prop}
variable {cc : ByteArray} {pc nL : Nat} {ls : Array Slot} {As rest st : List Value} {D : va_G} {cl : List vw_C} {tys : List (ClassId × FieldType)} {N : Nat} {ad : Nat → Nat} {B tR tK : Nat} {f : Nat → va_E}
/-- an array of longs -/
abbrev al (c : ClassId) (n : Nat) (g : Nat → Int64) : va_E := .inl (c, n, .inr (.inl g))
theorem x_last (hx : p.tables.exec = Jvm.exec) (hb : c.code = cc) (hK : va_K D cl tys s) (dd : xD N ad B) (hw : xw D cl N ad B s.heap f H locs) (q t0 : Nat) (hq : q < N) {cA : ClassId} {n : Nat} {g : Nat → Int64} (he : f q = al cA n g) (ht : tys[t0]? = some (cA, .long)) {i : Int32} {x : Int64} {j : Nat} (hi : i = nI j) (hj : j < n) (hn : n < 2 ^ 31) (hdg : decode cc pc = .ok (.lastore, 1))
    (kk : ∀ (H1 : Heap) (locs1 : List Loc), xw D cl N ad B s.heap (va_up f q (al cA n (vp_updL g j x))) H1 locs1 → W p l e R s m args below meth c H1 locs1 cells slots Q (F0 m (pc + 1) ls rest)) : W p l e R s m args below meth c H locs cells slots Q (F0 m pc ls (.long x :: .int i :: .ref (ad q) :: rest)) := by
  subst hi
  refine va_last hx hb hK hw.1 (dd.va f) hw.2 q t0 (wd_cell hq he) ht (vp_in_nI hj hn) hdg (fun H1 locs1 h1 _ h3 => kk H1 locs1 ⟨?_, h3⟩)
  rw [← wd_set]
  rw [nI_clamp (by omega)] at h1
  exact h1
theorem x_lald (hx : p.tables.exec = Jvm.exec) (hb : c.code = cc) (hK : va_K D cl tys s) (hw : xw D cl N ad B s.heap f H locs) (q t0 : Nat) (hq : q < N) {cA : ClassId} {n : Nat} {g : Nat → Int64} (he : f q = al cA n g) (ht : tys[t0]? = some (cA, .long)) {i : Int32} {j : Nat} (hi : i = nI j) (hj : j < n) (hn : n < 2 ^ 31) (hdg : decode cc pc = .ok (.laload, 1))
    (kk : W p l e R s m args below meth c H locs cells slots Q (F0 m (pc + 1) ls (.long (g j) :: rest))) : W p l e R s m args below meth c H locs cells slots Q (F0 m pc ls (.int i :: .ref (ad q) :: rest)) := by
  subst hi
  refine va_lald hx hb hK hw.1 q t0 (wd_cell hq he) ht (vp_in_nI hj hn) hdg ?_
  rw [nI_clamp (by omega)]
  exact kk
/-- a static method with a table of handlers is called -/
theorem x_SW {post : Int32 → (Nat → va_E) → Prop} {Pc : Array Value → State → Prop} {y : MethodName} {bytes : ByteArray} {maxL n index mc ms : Nat} {ret : Option FieldType} {hh : List (Nat × Nat × Nat × Nat)} {ws ws' Ts : List Cond} {rm : Room} {own : String} (S : CallFix p m c cc nL s args Ts own) (hM : Met l y ws rm Pc (xQi post D N ad B) mc ms (xA B)) (hbl : FrameBlind Pc) (hG : GoodIn Ts ws) (hw0 : ws = Cond.codeWith y bytes maxL ret hh :: ws') (hrc : rm.cells = mc) (hrs : rm.slots = ms) (hR : rm.frames + 1 ≤ R.frames ∧ 8 + (maxL + 11) + rm.locals ≤ R.locals) (hlink : (Cond.methodLink own index y).before args s = true) (hstat : (Cond.static y).before args s = true) (hini : (Cond.initialized y.cls).before args s = true) (hd : y.cls ≠ "java/lang/invoke/MethodHandle" ∧ y.cls ≠ "java/lang/invoke/VarHandle" ∧ (parseMethodDescriptor y.desc).map (fun d => d.parameters.length) = some n)
    (hpre : ∀ U : State, U.heap = H → s.WarmedH U.vm → Pc As.toArray U) (hw : xw D vwCl N ad B s.heap f H locs) (hst : st = As.reverse ++ rest) (hn : As.length = n) (hls : ls.size = nL) (hroom : (rest.map fun v => v.category).sum ≤ 8) (hf : cells + mc ≤ R.cells ∧ slots + ms ≤ R.slots) (hdg : decode cc pc = .ok (.invokestatic index, 3))
    (kk : ∀ (r : Int32) (u : Nat → va_E) (H1 : Heap) (locs1 : List Loc), post r u → xw D vwCl N ad B s.heap u H1 locs1 → W p l e R s m args below meth c H1 locs1 (cells + mc) (slots + ms) Q (F0 m (pc + 3) ls (.int r :: rest))) : W p l e R s m args below meth c H locs cells slots Q (F0 m pc ls st) := by
  subst hst
  obtain ⟨hx, hb, hml, hown, hts⟩ := S
  have hws : ∀ w ∈ ws, ∀ (a' : Array Value) (U : State), s.WarmedH U.vm → w.before a' U = true := fun w h a' U hW => word_at hW (hG w h).2 (hts w (hG w h).1)
  have hin : Cond.codeWith y bytes maxL ret hh ∈ ws := by rw [hw0]; exact List.mem_cons_self
  have hBk : Back l R p e below s args y 3 8 (PreOf R mc ms Pc) (PostOf (xQi post D N ad B) mc ms (xA B)) := va_backW (bytes := bytes) (maxL := maxL) (ret := ret) (hh := hh) hM hbl hrc hrs hR.1 hR.2 hws hin (fun a' U hW => word_at hW (Or.inl rfl) hini)
  have hrun : va_Run p l e R s m args below meth c H locs cells slots mc ms (F0 m pc ls (As.reverse ++ rest)) rest (xQi post D N ad B As.toArray) (xA B) := by
    intro T hT X
    obtain ⟨mk, methM, cM, hnamed, hmethM, -, -, -, -, -, -, hsigM⟩ := Cond.codeWith_spec (hts _ (hG _ hin).1)
    have hstatic : methM.isStatic = true := Cond.static_spec hnamed hmethM hstat
    obtain ⟨kP, hkP, -⟩ := className_of_methodNamed hnamed
    have hinitP : kP.init = .initialized := Cond.initialized_spec (findClass_of_methodNamed hnamed) hkP hini
    have hlen : As.length = methM.sig.parameters.length := by
      have h2 := hd.2.2
      rw [hsigM] at h2
      exact hn.trans (Option.some.inj h2).symm
    obtain ⟨vm1, X1, st1⟩ := X.invokestatic hx hown hlink hnamed hmethM hstatic hkP hinitP ⟨hd.1, hd.2.1⟩ (g := F0 m pc ls (As.reverse ++ rest)) rfl (argsL := As) (rest := rest) hlen rfl (by rw [hb]; exact hdg)
    obtain ⟨v, ⟨U', l2, c2, s2⟩, X', ⟨g', mk', t, L, e1, e2, hq, h1, hL, h2, h3⟩, hsteps⟩ := hBk m meth c ⟨T.setVm vm1, locs, cells, slots⟩ (F0 m pc ls rest) (.invokestatic index) mk As.toArray X1 rfl (hls.trans hml.symm) (by rw [hb]; exact hdg) (lv_room hroom) (X1.named hnamed) ⟨hf.1, hf.2, hpre (T.setVm vm1) hT X1.warmed⟩
    dsimp only [Pt.U, Pt.locs, Pt.cells, Pt.slots] at X' e1 e2 h1 h2 h3 hsteps
    subst h1; subst h2; subst h3
    exact ⟨v, (T.setVm vm1).calling g' mk' As.toArray, t, U', L, hT, X', hL, e1, e2, hq, fun target h => st1 _ (fun acts => by rw [doInvoke_state]; exact hsteps.trans h)⟩
  refine va_calli hrun hw.2 (fun _ _ h => h) (fun _ h => h) (fun r u t H1 locs1 ht _ hp hb _ _ hS => ?_)
  exact kk r u H1 locs1 hp ⟨by rw [← ht]; exact hb, hS⟩
theorem vX_at {b L : Nat} {xs : Nat → Int32} {s U : State} {H : Heap} {A : Nat → Prop} {locs : List Loc} (h : va_X b L xs s s.heap) (hvm : s.vm.Alike U.vm) (hS : va_S A s.heap H locs) (hA : ¬ A b) (hU : U.heap = H) : va_X b L xs U U.heap := by
  obtain ⟨scr, h1, h2, h3, h4, h5⟩ := h
  exact ⟨scr, by rw [hU, hS.2.1 b (Array.getElem?_eq_some_iff.mp h1).1 hA]; exact h1, State.isArrayOf_alike hvm h2, h3, h4, h5⟩
end LA
/-! cell(s, 0) -/
def cel (L : Nat) (xs : Nat → Int32) : Int32 := if 0 < L then xs 0 else 0
def xPreL (av : List Value) (D : va_G) (N : Nat) (ad : Nat → Nat) (B b L : Nat) (xs : Nat → Int32) (f : Nat → va_E) : Array Value → State → Prop := va_Pc av (fun U => va_P D vwCl (wd N ad f) U.heap ∧ va_X b L xs U U.heap)
theorem xPreL.blind (av : List Value) (D : va_G) (N : Nat) (ad : Nat → Nat) (B b L : Nat) (xs : Nat → Int32) (f : Nat → va_E) : FrameBlind (xPreL av D N ad B b L xs f) := by
  intro a U g mk h
  obtain ⟨h1, h2, h3⟩ := h
  exact ⟨h1, h2, h3⟩
abbrev rmL_cell : Room := { frames := 0, cells := 0, slots := 0, locals := 0 }
set_option maxHeartbeats 1000000 in
theorem k_L_cell (l : Launch) (D : va_G) (N : Nat) (ad : Nat → Nat) (B b L : Nat) (xs : Nat → Int32) (f : Nat → va_E) (hb9 : b < B) (hL : L < 2 ^ 31) : Met l yL_cell wsL_cell rmL_cell (xPreL [.ref b, .int (nI 0)] D N ad B b L xs f) (xQi (fun r u => cel L xs = r ∧ f = u) D N ad B) 0 0 (xA B) := by
  refine Met.ofW (cc := cL_cell) (maxL := 2) (ret := some .int) (by decide) rfl ?_
  intro p e s m args below meth c s₁ Bd hml hv
  obtain ⟨rfl, hP, hX⟩ := hv
  have hx : p.tables.exec = Jvm.exec := Bd.exec
  have hb : c.code = cL_cell := Bd.bytes
  have hr : meth.sig.returnType = some .int := Bd.returns
  have hlocks := Bd.notSynchronized
  have hl := lv_entry ([.ref b, .int (nI 0)] : List Value) (n := 2) (Nat.le_of_ble_eq_true rfl)
  have hw : xw D vwCl N ad B s.heap f s.heap [] := ⟨hP, va_S.rf⟩
  have hbl : b < s.heap.size := by
    obtain ⟨scr, h1, -⟩ := hX
    exact (Array.getElem?_eq_some_iff.mp h1).1
  have hbA : ¬ xA B b := Nat.not_le.mpr hb9
  rw [lg_entry_eq]
  refine lv_iload_n hx hb dL_cell_0 rfl (lv_at hl 1 rfl) ?_
  refine lv_aload_n hx hb dL_cell_1 rfl (lv_at hl 0 rfl) ?_
  refine va_slen hx hb hX hbl hbA hw.2 dL_cell_2 ?_
  refine n_icge (b := L) (tgt := 12) hx hb dL_cell_3 (by decide) (by omega) hL (fun c3 => ?_) (fun c3 => ?_)
  · refine lv_iconst (v := nI 0) hx hb dL_cell_12 (by decide) ?_
    exact x_iret hx hb hr hlocks hw ⟨(if_neg (by omega)), rfl⟩ dL_cell_13
  · refine lv_aload_n hx hb dL_cell_6 rfl (lv_at hl 0 rfl) ?_
    refine lv_iload_n hx hb dL_cell_7 rfl (lv_at hl 1 rfl) ?_
    refine va_sld hx hb hX hbl hbA hw.2 (vp_in_nI c3 hL) dL_cell_8 ?_
    refine lv_goto (tgt := 13) hx hb dL_cell_9 (by decide) ?_
    exact x_iret hx hb hr hlocks hw ⟨(by rw [nI_clamp (by omega)]; exact if_pos c3), rfl⟩ dL_cell_13
/-! at(x, i, out) -/
def wsL_atT : List Cond := .codeWith yL_at cL_at 4 (some .int) [(0, 9, 12, 13)] :: ([.methodLink RL 7 yX5_at, .instanceMethod yX5_at, .selects RX5 yX5_at yX5_at, .initialized RX5, .classLink RL 13 RJx00060] ++ (wsX5_at ++ wsX5_atT))
theorem gT_in : GoodIn wsL_atT (wsV RL 7 RX5 yX5_at wsX5_at) := goodIn_sub (fun w h => by
  refine List.mem_cons_of_mem _ ?_
  unfold wsV at h
  rcases List.mem_append.mp h with h | h
  · exact List.mem_append_left _ (by revert w; decide +kernel)
  · exact List.mem_append_right _ (List.mem_append_left _ h)) (by decide +kernel)
theorem gT_out : GoodIn wsL_atT (wsV RL 7 RX5 yX5_at wsX5_atT) := goodIn_sub (fun w h => by
  refine List.mem_cons_of_mem _ ?_
  unfold wsV at h
  rcases List.mem_append.mp h with h | h
  · exact List.mem_append_left _ (by revert w; decide +kernel)
  · exact List.mem_append_right _ (List.mem_append_right _ h)) (by decide +kernel)
abbrev rmL_at : Room := { frames := 8, cells := 1, slots := 6, locals := 150 }
def xPreA (av : List Value) (D : va_G) (ca : Nat → ClassId) (N : Nat) (ad : Nat → Nat) (B tR tK sa : Nat) (f : Nat → va_E) : Array Value → State → Prop := va_Pc av (fun U => (B ≤ U.heap.size ∧ va_P D vwCl (wd N ad f) U.heap ∧ va_K D vwCl (xT ca) U ∧ xE tR tK B U) ∧ xZ B sa U)
theorem xPreA.blind (av : List Value) (D : va_G) (ca : Nat → ClassId) (N : Nat) (ad : Nat → Nat) (B tR tK sa : Nat) (f : Nat → va_E) : FrameBlind (xPreA av D ca N ad B tR tK sa f) := by
  intro a U g mk h
  obtain ⟨h1, ⟨h2, h3, h4, h5⟩, h6⟩ := h
  exact ⟨h1, ⟨h2, h3, va_K.moved (u := U) (U := U.calling g mk a) (Vm.Alike.refl U.vm) h4, h5.calling g mk a⟩, h6.calling g mk a⟩
set_option maxHeartbeats 4000000 in
set_option maxRecDepth 100000 in
theorem k_L_at_in (l : Launch) (D : va_G) (ca : Nat → ClassId) (N : Nat) (ad : Nat → Nat) (B tR tK sa : Nat) (f : Nat → va_E) (dd : xD N ad B) (hN : 327 ≤ N) (n : Nat → Nat) (g : Nat → Nat → Int32) (z : Nat → Nat → Int32) (zn : Nat) (tb : Nat → Int32) (hR : RepX ca ad n g z zn tb f) (j : Nat) (h1 : n 1 ≤ 32) (hj : j < n 1) (lg : Nat → Int64) (c_326 : f 326 = al (ca 5) 1 lg) : Met l yL_at wsL_atT rmL_at (xPreA [.ref (ad 0), .int (nI j), .ref (ad 326)] D ca N ad B tR tK sa f) (xQi (fun r u => nI 0 = r ∧ u = va_up f 326 (al (ca 5) 1 (vp_updL lg 0 (wb (g 1 (j / 4)) (j % 4)).toInt64))) D N ad B) 1 6 (xA B) := by
  refine va_MetW (cc := cL_at) (maxL := 4) (ret := some .int) (hh := [(0, 9, 12, 13)]) (by decide) rfl ?_
  intro p e s m args below meth c s₁ Bd hml hv
  obtain ⟨rfl, ⟨hB, hP, hK, hE⟩, hZ⟩ := hv
  have hx : p.tables.exec = Jvm.exec := Bd.exec
  have hb : c.code = cL_at := Bd.bytes
  have hr : meth.sig.returnType = some .int := Bd.returns
  have hlocks := Bd.notSynchronized
  have hts : ∀ w ∈ wsL_atT, w.before ([.ref (ad 0), .int (nI j), .ref (ad 326)] : List Value).toArray s = true := atoms_spec (ws := wsL_atT) Bd.pre
  have hown : s.vm.findClass RL = some m.cls := findClass_of_methodNamed Bd.named
  have hl := lv_entry ([.ref (ad 0), .int (nI j), .ref (ad 326)] : List Value) (n := 4) (Nat.le_of_ble_eq_true rfl)
  have hw : xw D vwCl N ad B s.heap f s.heap [] := ⟨hP, va_S.rf⟩
  have c_0 := hR.1
  rw [lg_entry_eq]
  refine lv_aload_n hx hb dL_at_0 rfl (lv_at hl 2 rfl) ?_
  refine lv_iconst (v := nI 0) hx hb dL_at_1 (by decide) ?_
  refine lv_aload_n hx hb dL_at_2 rfl (lv_at hl 0 rfl) ?_
  refine lv_iload_n hx hb dL_at_3 rfl (lv_at hl 1 rfl) ?_
  refine x_Vi (q := 0) (As := [.int (nI j)]) (rest := [.int (nI 0), .ref (ad 326)]) ⟨hx, hb, hml, hown, hts⟩ (k_X5_at_in l D ca N ad B tR tK f dd (by omega) n g z zn tb hR j h1 hj) (cwV 1 hts gT_in rfl rfl rfl (by decide +kernel) ⟨Nat.le_of_ble_eq_true rfl, Nat.le_of_ble_eq_true rfl⟩) hK hE hB hw (by omega) c_0 rfl rfl rfl rfl hl.1 (Nat.le_of_ble_eq_true rfl) ⟨Nat.zero_le _, Nat.zero_le _⟩ dL_at_4 (fun r u H locs hp hw => ?_)
  obtain ⟨er, eu⟩ := hp
  rw [← er]
  rw [← eu] at hw
  refine lv_i2l hx hb dL_at_7 rfl ?_
  refine x_last (j := 0) hx hb hK dd hw 326 5 (by omega) c_326 rfl rfl (by omega) (by decide) dL_at_8 (fun H locs hw => ?_)
  refine lv_goto (tgt := 15) hx hb dL_at_9 (by decide) ?_
  refine lv_iconst (v := nI 0) hx hb dL_at_15 (by decide) ?_
  refine W.widen (k := 1) (n := 6) (by omega) (by omega) ?_
  exact x_iret hx hb hr hlocks hw ⟨rfl, rfl⟩ dL_at_16
set_option maxHeartbeats 4000000 in
set_option maxRecDepth 100000 in
theorem k_L_at_out (l : Launch) (hlt : l.stackTraces = false) (D : va_G) (ca : Nat → ClassId) (N : Nat) (ad : Nat → Nat) (B tR tK sa : Nat) (f : Nat → va_E) (dd : xD N ad B) (hN : 327 ≤ N) (n : Nat → Nat) (g : Nat → Nat → Int32) (z : Nat → Nat → Int32) (zn : Nat) (tb : Nat → Int32) (hR : RepX ca ad n g z zn tb f) (x : Int32) (ho : x < 0 ∨ nI (n 1) ≤ x) : Met l yL_at wsL_atT rmL_at (xPreA [.ref (ad 0), .int x, .ref (ad 326)] D ca N ad B tR tK sa f) (xQi (fun r u => nI 1 = r ∧ f = u) D N ad B) 1 6 (xA B) := by
  refine va_MetW (cc := cL_at) (maxL := 4) (ret := some .int) (hh := [(0, 9, 12, 13)]) (by decide) rfl ?_
  intro p e s m args below meth c s₁ Bd hml hv
  obtain ⟨rfl, ⟨hB, hP, hK, hE⟩, hZ⟩ := hv
  have hx : p.tables.exec = Jvm.exec := Bd.exec
  have hb : c.code = cL_at := Bd.bytes
  have hr : meth.sig.returnType = some .int := Bd.returns
  have hlocks := Bd.notSynchronized
  have hts : ∀ w ∈ wsL_atT, w.before ([.ref (ad 0), .int x, .ref (ad 326)] : List Value).toArray s = true := atoms_spec (ws := wsL_atT) Bd.pre
  have hown : s.vm.findClass RL = some m.cls := findClass_of_methodNamed Bd.named
  have hl := lv_entry ([.ref (ad 0), .int x, .ref (ad 326)] : List Value) (n := 4) (Nat.le_of_ble_eq_true rfl)
  have hw : xw D vwCl N ad B s.heap f s.heap [] := ⟨hP, va_S.rf⟩
  have c_0 := hR.1
  have htab : c.exceptionTable.toList = [⟨0, 9, 12, 13⟩] := by
    obtain ⟨m9, meth9, c9, hn9, hm9, hc9, -, -, ht9, -, -, -⟩ := Cond.codeWith_spec (hts _ List.mem_cons_self)
    cases Bd.named.symm.trans hn9
    cases Bd.method.symm.trans hm9
    cases (Stand.of_body Bd).code.symm.trans hc9
    have := table_eq c.exceptionTable.toList
    rw [ht9] at this
    exact this.symm
  have hcast : (Cond.castable RJx00060 RJx00060).before ([.ref (ad 0), .int x, .ref (ad 326)] : List Value).toArray s = true := va_Nw.use rfl (hZ.2.2 _ List.mem_cons_self)
  rw [lg_entry_eq]
  refine lv_aload_n hx hb dL_at_0 rfl (lv_at hl 2 rfl) ?_
  refine lv_iconst (v := nI 0) hx hb dL_at_1 (by decide) ?_
  refine lv_aload_n hx hb dL_at_2 rfl (lv_at hl 0 rfl) ?_
  refine lv_iload_n hx hb dL_at_3 rfl (lv_at hl 1 rfl) ?_
  refine x_VT (C := RX5) (As := [.int x]) (b := ad 0) (rest := [.int (nI 0), .ref (ad 326)]) ⟨hx, hb, hml, hown, hts⟩ (k_X5_at_out l hlt D ca N ad B sa f (by omega) n g z zn tb hR x ho) (xPreT.blind _ _ _ _ _ _ _ _) (cwV 1 hts gT_out rfl rfl rfl (by decide +kernel) ⟨Nat.le_of_ble_eq_true rfl, Nat.le_of_ble_eq_true rfl⟩) (va_recv hK hw.1 (ci := 6) (q0 := 0) rfl (wd_cell (by omega) c_0)) (fun U hU hW => ⟨rfl, ⟨by rw [hU]; exact hB, by rw [hU]; exact hP, va_K.moved hW.alike hK⟩, hZ.warm hW (fun q _ _ => by rw [hU])⟩) rfl hl.1 (Nat.le_of_ble_eq_true rfl) ⟨by decide, by decide⟩ dL_at_4 ⟨0, 9, 12, 13⟩ htab (by decide) (by decide) (hts (.classLink RL 13 RJx00060) (List.mem_cons_of_mem _ (List.mem_append_left _ (by simp)))) hcast (fun q H1 hz ho1 => ?_)
  have hw1 : xw D vwCl N ad B s.heap f H1 [] := ⟨hP.kept (fun k y hy => ho1 y.1 ((hP k y hy).lt)), hz, fun q hq _ => ho1 q hq, fun y hy => nomatch hy⟩
  refine lv_astore_n (lv' := [(3, .ref q), (0, .ref (ad 0)), (1, .int x), (2, .ref (ad 326))]) hx hb dL_at_12 rfl hl (by decide) rfl (fun ls hl => ?_)
  refine lv_iconst (v := nI 1) hx hb dL_at_13 (by decide) ?_
  exact x_iret hx hb hr hlocks hw1 ⟨rfl, rfl⟩ dL_at_14
