/-! ===== a callee's throw, caught by the one row of the caller's table ===== -/
section CT
variable {p : Program} {l : Launch} {e : Env} {R : Room} {s : State} {m : MethodId} {args : Array Value} {below : List Frame} {meth : Method} {c : Code} {T : State} {H : Heap} {locs : List Loc} {cells slots : Nat} {Q : State → Prop}
theorem x_caught (X : Stand p l e R s m args below meth c T locs cells slots) (q : Addr) {g : JFrame} (hg : g.method = m) {ce : Cell} (hcell : T.heap[q]? = some ce) (hv : ce.vm = .none) (hcl : s.vm.findClass RJx00060 = some ce.cls) {own : String} (hown : s.vm.findClass own = some m.cls) (x : ExceptionTableEntry) (htab : c.exceptionTable.toList = [x]) (hcov : covers x g.pc = true) (h0 : x.catchType ≠ 0) (hlink : (Cond.classLink own x.catchType RJx00060).before args s = true) (hcast : (Cond.castable RJx00060 RJx00060).before args s = true) :
    ∃ vm' : Vm, Stand p l e R s m args below meth c (T.setVm vm') locs cells slots ∧ ∀ target, Steps p.tables e below ((T.setVm vm').setTop { g with pc := x.handlerPc, stack := [.ref q] }) target → Steps p.tables e below ((T.setTop g).pushFrame (.throwing q)) target := by
  subst hg
  have hpl : e.platform.magicAccessors = ({} : Platform).magicAccessors := by rw [X.admits.platform]
  obtain ⟨c3, c4, hc3, hc4, hasg⟩ := Cond.castable_spec hcast
  cases Option.some.inj (hc3.symm.trans hcl)
  obtain ⟨c5, hc5, hl5⟩ := Cond.classLink_spec hown hlink e.platform hpl
  cases Option.some.inj (hc4.symm.trans hc5)
  obtain ⟨dk, _, _, kt, hd, _, _, _, _, hkt, _, hopen⟩ := hl5.here
  have hW := X.warmed.noted hd hopen (State.rightAt_cls hl5)
  have hal : s.vm.Alike (T.vm.noted g.method.cls x.catchType (.cls c4)) := hW.alike
  obtain ⟨k0, hk0, -⟩ := Vm.findClass_spec hcl
  obtain ⟨k0', hk0', -⟩ := hal.2.2 _ _ hk0
  obtain ⟨kt', hkt', -⟩ := hal.2.2 _ _ hkt
  have hfit : (T.vm.noted g.method.cls x.catchType (.cls c4)).assignable ce.cls c4 = true := by
    rw [hal.assignable]
    exact hasg
  obtain ⟨ra, rt⟩ := (resolveClass_links e.toSetting (X.warmed.classLinks hl5)).op (op := VmOp.resolveClass g.method.cls x.catchType) rfl
  have hobj : ∀ k, ce.vm ≠ .statics k := fun k h => by rw [hv] at h; cases h
  refine ⟨_, X.noted hW, fun target hrest => ?_⟩
  have hvm : ((T.setTop g).pushFrame (.throwing q)).vm = T.vm := Stand.throwing_vm T g q
  have hhp : ((T.setTop g).pushFrame (.throwing q)).heap = T.heap := Stand.throwing_heap T g q
  have key : ∀ S : State, S.vm = T.vm → S.heap = T.heap → ∀ (Q : Handler → Pre) (E : CtlPost) (d : Bool) (acts : List Action), wp (findHandler.go g q [x]) Q E e d acts S ↔ Q (.found x.handlerPc) d acts (S.setVm (T.vm.noted g.method.cls x.catchType (.cls c4))) := by
    intro S v1 v2 Q E d acts
    have hx := hcov
    simp only [covers] at hx
    have hce : S.heap[q]? = some ce := by rw [v2]; exact hcell
    rw [← v1] at ra rt hk0' hkt' hfit ⊢
    simp [findHandler.go, hx, h0, ra, rt, hce, hobj, hk0', hkt', hfit, VmOp.dirties, VmOp.acts]
  have hfind : ∀ (Q : Handler → Pre) (E : CtlPost) (d : Bool) (acts : List Action), wp (findHandler g q) Q E e d acts ((T.setTop g).pushFrame (.throwing q)) ↔ Q (.found x.handlerPc) d acts (((T.setTop g).pushFrame (.throwing q)).setVm (T.vm.noted g.method.cls x.catchType (.cls c4))) := by
    intro Q E d acts
    rw [W.findHandler_eq (meth := meth) (code := c) (by rw [hvm]; exact X.method') X.code, htab]
    exact key _ hvm hhp Q E d acts
  obtain ⟨hgo, hw⟩ := X.here.throwing q
  refine Steps.head hgo hw ?_
  have hstep : (stepThrowing e ((T.setTop g).pushFrame (.throwing q)) q (.java g :: T.frames.tail)).Is ((((T.setTop g).pushFrame (.throwing q)).setVm (T.vm.noted g.method.cls x.catchType (.cls c4))).setFrames (.java { g with pc := x.handlerPc, stack := [.ref q] } :: T.frames.tail)) [] := by
    simp only [stepThrowing, searchFrame, vmDo]
    generalize hr : Sem.go _ e false [] ((T.setTop g).pushFrame (.throwing q)) = res
    obtain ⟨as, rfl, ha⟩ := Sem.eq_ok_of hr (a := Handler.found x.handlerPc) (s' := ((T.setTop g).pushFrame (.throwing q)).setVm (T.vm.noted g.method.cls x.catchType (.cls c4))) (acts' := []) (by simp [hfind _ _ _ _])
    exact ⟨rfl, ha⟩
  rw [stepThread_throwing (frames_entered X.here.top _), hstep.1]
  obtain ⟨g0, hg0⟩ := Option.isSome_iff_exists.mp X.here.top
  obtain ⟨r, hr⟩ := State.topJava?_eq_some.mp hg0
  have hr' : (T.setVm (T.vm.noted g.method.cls x.catchType (.cls c4))).frames = .java g0 :: r := hr
  rw [State.setTop_of_frames _ hr'] at hrest
  have e1 : (((T.setTop g).pushFrame (.throwing q)).setVm (T.vm.noted g.method.cls x.catchType (.cls c4))).setFrames (.java { g with pc := x.handlerPc, stack := [.ref q] } :: T.frames.tail) = (T.setVm (T.vm.noted g.method.cls x.catchType (.cls c4))).setFrames (.java { g with pc := x.handlerPc, stack := [.ref q] } :: r) := by
    rw [hr, List.tail_cons, State.pushFrame, State.setTop_of_frames _ hr]
    show (((T.setVm (T.vm.noted g.method.cls x.catchType (.cls c4))).setFrames _).setFrames _).setFrames _ = _
    rw [State.setFrames_setFrames, State.setFrames_setFrames]
  rw [e1]
  exact hrest
theorem x_VT {cc : ByteArray} {pc nL n index maxL : Nat} {ls : Array Slot} {As rest : List Value} {Ts : List Cond} {own C : String} {y : MethodName} {bytes : ByteArray} {ret : Option FieldType} {ws : List Cond} {rm : Room} {Pc : Array Value → State → Prop} {b : Addr} (S : CallFix p m c cc nL s args Ts own) (hM : MetFree l y (headSpec ws rm) Pc (fun _ _ _ _ _ => True) xThr) (hbl : FrameBlind Pc) (cw : CallW R s args own C index y bytes maxL ret ws rm 1 6 n) (hrec : ∃ cellB : Cell, H[b]? = some cellB ∧ cellB.vm.isStatics = false ∧ s.vm.findClass C = some cellB.cls) (hpre : ∀ U : State, U.heap = H → s.WarmedH U.vm → Pc (Value.ref b :: As).toArray U) (hn : As.length = n) (hls : ls.size = nL) (hroom : (rest.map fun v => v.category).sum ≤ 8) (hf : cells + 1 ≤ R.cells ∧ slots + 6 ≤ R.slots) (hdg : decode cc pc = .ok (.invokevirtual index, 3))
    (x : ExceptionTableEntry) (htab : c.exceptionTable.toList = [x]) (hcov : covers x pc = true) (h0 : x.catchType ≠ 0) (hlink : (Cond.classLink own x.catchType RJx00060).before args s = true) (hcast : (Cond.castable RJx00060 RJx00060).before args s = true)
    (kk : ∀ (q : Addr) (H1 : Heap), H.size ≤ H1.size → (∀ a : Nat, a < H.size → H1[a]? = H[a]?) → W p l e R s m args below meth c H1 locs (cells + 1) (slots + 6) Q (F0 m x.handlerPc ls [.ref q])) : W p l e R s m args below meth c H locs cells slots Q (F0 m pc ls (As.reverse ++ .ref b :: rest)) := by
  obtain ⟨⟨hrc, hrs, hfr, hlo, hws, hcin, hcode, hini, hy, hlen, hl⟩, hinst, hsel⟩ := cw
  obtain ⟨hx, hb, hml, hown, hts⟩ := S
  obtain ⟨cellB, hcB, hoB, hclB⟩ := hrec
  intro T hT X
  obtain ⟨mk, methM, hnamed, hmethM, hstM, habM⟩ := Cond.instanceMethod_spec hinst
  obtain ⟨methM', cM, hmethM', -, -, -, -, -, -, hsigM⟩ := Cond.code_spec hnamed hcode
  cases hmethM.symm.trans hmethM'
  obtain ⟨c2, r2, m2, q1, q2, q3, q4, kP, hkP, hkPi⟩ := Cond.selects_spec hsel
  cases hclB.symm.trans q1
  cases (State.methodFound?_of_named hnamed hy).symm.trans q2
  cases hnamed.symm.trans q3
  have hselP : selectMethod e.platform s.vm cellB.cls mk = .method mk := by rw [Launch.admits_selectMethod X.admits]; exact q4
  obtain ⟨vm1, X1, st1⟩ := X.invokevirtual hx hown hl hnamed hmethM hstM hkP hkPi hy (a := b) (cell := cellB) (by rw [hT]; exact hcB)
    (fun z h => by rw [h] at hoB; cases hoB) hselP hmethM habM hkP hkPi (g := F0 m pc ls (As.reverse ++ .ref b :: rest)) rfl (argsL := As) (rest := rest) (hn.trans (hlen _ hsigM)) rfl (by rw [hb]; exact hdg)
  have hA : At (T.setVm vm1) (F0 m pc ls rest).method c below := X1.here
  have hnU := X1.named hnamed
  have hcU : (Cond.code y bytes maxL ret).before (Value.ref b :: As).toArray (T.setVm vm1) = true := hws _ hcin _ _ X1.warmed
  obtain ⟨methY, cY, hmY, hcY, -, hlY, -, -, -, -⟩ := Cond.code_spec hnU hcU
  obtain ⟨kY, hkY, -⟩ := className_of_methodNamed hnU
  have hiU : (Cond.initialized y.cls).before (Value.ref b :: As).toArray (T.setVm vm1) = true := word_at X1.warmed (Or.inl (by rfl)) hini
  have hkI : kY.init = .initialized := Cond.initialized_spec (findClass_of_methodNamed hnU) hkY hiU
  have happ : (headSpec ws rm).appliesLoose y e.platform ((T.setVm vm1).calling (F0 m pc ls rest) mk (Value.ref b :: As).toArray) = true :=
    Spec.appliesLoose_calling (g := F0 m pc ls rest) hA (by rw [hb]; exact hdg) hnU hkY hkI
      (X1.room_calling (g := F0 m pc ls rest) (R' := (headSpec ws rm).room) (hls.trans hml.symm) hmY hcY hfr (by rw [hlY]; show 2 * 0 + (rest.map fun v => v.category).sum + _ + rm.locals ≤ _; omega) (by show cells + rm.cells ≤ _; omega) (by show slots + rm.slots ≤ _; omega)) (atoms_intro fun w hw => hws w hw _ _ X1.warmed)
  obtain ⟨mid, hmid⟩ := hA.above
  have hfrm : ((T.setVm vm1).setTop (F0 m pc ls rest)).frames = (.java (F0 m pc ls rest) :: mid) ++ below := by rw [State.frames_setTop' _ hA.top, hmid]; rfl
  obtain ⟨o, s2, hsteps, -, hend, q, rfl, ⟨ce, hce, hcv, hccl⟩, hW2, hsame⟩ := Steps.callFree hM p X.admits X.cas X.clock (acts := []) hfrm happ (hbl _ _ _ _ (hpre (T.setVm vm1) hT X1.warmed)) trivial
  rw [State.frames_setTop' _ hA.top, X1.tail] at hend
  obtain ⟨T2, X2, hW3, hsame3, ht⟩ := X1.outOfThrown (g := F0 m pc ls rest) rfl hend hW2 hsame
  have hh : s2.heap = T2.heap := by rw [ht]; exact Stand.throwing_heap T2 _ q
  have hcl2 : s.vm.findClass RJx00060 = some ce.cls := by
    have h1 : (T.setVm vm1).vm.findClass RJx00060 = some ce.cls := hccl
    rw [X1.warmed.alike.findClass] at h1
    exact h1
  obtain ⟨vm2, X3, st3⟩ := x_caught X2 q (g := F0 m pc ls rest) rfl (by rw [← hh]; exact hce) hcv hcl2 hown x htab hcov h0 hlink hcast
  rw [List.append_nil] at X3
  obtain ⟨t, a, bq⟩ := kk q T2.heap (by have := hsame3.2.1; rw [← hT]; exact this) (fun i hi => by
    have h1 : (T.setVm vm1).heap[i]? = some (T.heap[i]'(by rw [hT]; exact hi)) := Array.getElem?_eq_getElem _
    have h2 := hsame3.old_cell h1
    rw [← hT]
    exact h2.trans h1.symm) (T2.setVm vm2) rfl X3
  refine ⟨t, ?_, bq⟩
  exact st1 _ (fun acts => by rw [doInvoke_state]; exact hsteps.trans (by rw [ht]; exact st3 _ a))
end CT
