/-! ===== what a method of the system takes as given, beside its cells; calls over numbered cells ===== -/
def shKL : List Int32 := [1116352408, 1899447441, -1245643825, -373957723, 961987163, 1508970993, -1841331548, -1424204075, -670586216, 310598401, 607225278, 1426881987, 1925078388, -2132889090, -1680079193, -1046744716, -459576895, -272742522, 264347078, 604807628, 770255983, 1249150122, 1555081692, 1996064986, -1740746414, -1473132947, -1341970488, -1084653625, -958395405, -710438585, 113926993, 338241895, 666307205, 773529912, 1294757372, 1396182291, 1695183700, 1986661051, -2117940946, -1838011259, -1564481375, -1474664885, -1035236496, -949202525, -778901479, -694614492, -200395387, 275423344, 430227734, 506948616, 659060556, 883997877, 958139571, 1322822218, 1537002063, 1747873779, 1955562222, 2024104815, -2067236844, -1933114872, -1866530822, -1538233109, -1090935817, -965641998]
def shRL : List Int32 := [1779033703, -1150833019, 1013904242, -1521486534, 1359893119, -1694144372, 528734635, 1541459225]
/-- the constants of ALGORITHM 0 -/
def shK (j : Nat) : Int32 := shKL.getD j 0
def shR (j : Nat) : Int32 := shRL.getD j 0
def xNF : List (Nat × String × String) := [(103, "octets", "LFixityRows$Octets;"), (112, "longWords", "[I"), (115, "shortWord", "I"), (109, "algorithms", "I"), (173, "fittedDay", "I"), (176, "nextDay", "I"), (170, "mendings", "I")]
def xNM : List (String × Nat × MethodName) := [(RX5, 24, yX1_init), (RX5, 38, yX2_init), (RX5, 53, yX0_init), (RX0, 11, yX2_init), (RX5, 56, yX3_init), (RX3, 11, yX1_init), (RX3, 20, yX2_init)]
/-- links among nest mates, and the two static tables, at a state -/
def xE (tR tK B : Nat) (U : State) : Prop :=
  (∀ q ∈ xNF, va_Nw (.fieldLinkNest RX5 q.1 RX0 q.2.1 q.2.2 RX5) U) ∧ (∀ q ∈ xNM, va_Nw (.methodLinkNest q.1 q.2.1 q.2.2 RX5) U) ∧
  (va_Z RX1 "ROOTS" "[I" (.ref tR) (xA B) U U.heap ∧ va_T .int tR 8 (fun j => .int (shR j)) (xA B) U U.heap) ∧ va_Z RX1 "K" "[I" (.ref tK) (xA B) U U.heap ∧ va_T .int tK 64 (fun j => .int (shK j)) (xA B) U U.heap
theorem xE.warm {tR tK B : Nat} {s U : State} {locs : List Loc} (h : xE tR tK B s) (hW : s.WarmedH U.vm) (hS : va_S (xA B) s.heap U.heap locs) : xE tR tK B U := by
  obtain ⟨h1, h2, ⟨h3, h4⟩, h5, h6⟩ := h
  exact ⟨fun q hq => va_Nw.warmF hW (h1 q hq), fun q hq => va_Nw.warmM hW (h2 q hq), ⟨(h3.moved hW.alike).kept hS.2.1, (h4.moved hW.alike).kept hS.2.1⟩, (h5.moved hW.alike).kept hS.2.1, (h6.moved hW.alike).kept hS.2.1⟩
theorem xE.calling {tR tK B : Nat} {U : State} (h : xE tR tK B U) (g : JFrame) (mk : MethodId) (a : Array Value) : xE tR tK B (U.calling g mk a) := by
  obtain ⟨h1, h2, ⟨h3, h4⟩, h5, h6⟩ := h
  exact ⟨fun q hq => va_Nw.same (u := U) rfl rfl (h1 q hq), fun q hq => va_Nw.same (u := U) rfl rfl (h2 q hq), ⟨h3.moved (u := U) (Vm.Alike.refl U.vm), h4.moved (u := U) (Vm.Alike.refl U.vm)⟩, h5.moved (u := U) (Vm.Alike.refl U.vm), h6.moved (u := U) (Vm.Alike.refl U.vm)⟩
/-- a contract's start: the arguments, the world, what is given -/
def xPre (av : List Value) (D : va_G) (tys : List (ClassId × FieldType)) (N : Nat) (ad : Nat → Nat) (B tR tK : Nat) (f : Nat → va_E) : Array Value → State → Prop := va_Pc av (fun U => B ≤ U.heap.size ∧ va_P D vwCl (wd N ad f) U.heap ∧ va_K D vwCl tys U ∧ xE tR tK B U)
theorem xPre.blind (av : List Value) (D : va_G) (tys : List (ClassId × FieldType)) (N : Nat) (ad : Nat → Nat) (B tR tK : Nat) (f : Nat → va_E) : FrameBlind (xPre av D tys N ad B tR tK f) := by
  intro a U g mk h
  obtain ⟨h1, h2, h3, h4, h5⟩ := h
  exact ⟨h1, h2, h3, va_K.moved (u := U) (U := U.calling g mk a) (Vm.Alike.refl U.vm) h4, h5.calling g mk a⟩
/-- a contract's ends: an int (a boolean), nothing -/
def xQi (post : Int32 → (Nat → va_E) → Prop) (D : va_G) (N : Nat) (ad : Nat → Nat) (B : Nat) : Array Value → State → Outcome → State → Prop := va_Qi post (fun u t => va_P D vwCl (wd N ad u) t.heap) (xA B)
def xQv (post : (Nat → va_E) → Prop) (D : va_G) (N : Nat) (ad : Nat → Nat) (B : Nat) : Array Value → State → Outcome → State → Prop := va_Qv post (fun u t => va_P D vwCl (wd N ad u) t.heap) (xA B)
/-- a method that makes nothing, from its start -/
theorem x_open {l : Launch} {y : MethodName} {ws ws' : List Cond} {rm : Room} {Qc : Array Value → State → Outcome → State → Prop} {mc ms : Nat} {cc : ByteArray} {maxL : Nat} {ret : Option FieldType} {av : List Value} {D : va_G} {tys : List (ClassId × FieldType)} {N : Nat} {ad : Nat → Nat} {B tR tK : Nat} {f : Nat → va_E} (hy : plainName y.cls = true) (hw : ws = Cond.code y cc maxL ret :: ws') (hlen : (lg_sl av).length ≤ maxL)
    (body : ∀ (p : Program) (e : Env) (s : State) (m : MethodId) (below : List Frame) (meth : Method) (c : Code) (ls : Array Slot), p.tables.exec = Jvm.exec → c.code = cc → c.maxLocals = maxL → s.vm.findClass y.cls = some m.cls → (∀ w ∈ ws, w.before av.toArray s = true) → meth.sig.returnType = ret → meth.locks = false → meth.name = y.name → B ≤ s.heap.size → va_K D vwCl tys s → xE tR tK B s → xw D vwCl N ad B s.heap f s.heap [] → lv_has ls maxL (lv_args 0 av) →
      W p l e rm s m av.toArray below meth c s.heap [] 0 0 (MQ below Qc av.toArray s mc ms (xA B)) (F0 m 0 ls [])) : Met l y ws rm (xPre av D tys N ad B tR tK f) Qc mc ms (xA B) := by
  refine Met.ofW (cc := cc) (maxL := maxL) (ret := ret) hy hw ?_
  intro p e s m args below meth c s₁ Bd hml hv
  obtain ⟨rfl, hB, hP, hK, hE⟩ := hv
  have hl := lv_entry av (n := maxL) hlen
  rw [lg_entry_eq]
  exact body p e s m below meth c _ Bd.exec Bd.bytes hml (findClass_of_methodNamed Bd.named) (atoms_spec (ws := ws) Bd.pre) Bd.returns Bd.notSynchronized (name_of_methodNamed Bd.named Bd.method).1 hB hK hE ⟨hP, va_S.rf⟩ hl
section XC
variable {p : Program} {l : Launch} {e : Env} {R : Room} {s : State} {m : MethodId} {args : Array Value} {below : List Frame} {meth : Method} {c : Code} {H : Heap} {locs : List Loc} {cells slots : Nat} {Q : State → Prop}
variable {cc : ByteArray} {pc nL : Nat} {ls : Array Slot} {As rest st : List Value} {D : va_G} {tys : List (ClassId × FieldType)} {N : Nat} {ad : Nat → Nat} {B tR tK : Nat} {f : Nat → va_E}
variable {y : MethodName} {bytes : ByteArray} {maxL n index : Nat} {ret : Option FieldType} {ws Ts : List Cond} {rm : Room} {own C : String} {q ci : Nat} {fs : List Value} {cq : vw_C}
theorem x_pre (hK : va_K D vwCl tys s) (hE : xE tR tK B s) (hw : xw D vwCl N ad B s.heap f H locs) (hB : B ≤ s.heap.size) (av : List Value) (U : State) (hU : U.heap = H) (hW : s.WarmedH U.vm) : xPre av D tys N ad B tR tK f av.toArray U := by
  refine ⟨rfl, by rw [hU]; exact Nat.le_trans hB hw.2.1, by rw [hU]; exact hw.1, va_K.moved hW.alike hK, ?_⟩
  exact hE.warm hW (by rw [hU]; exact hw.2)
/-- a call of an instance method that answers an int -/
theorem x_Vi {post : Int32 → (Nat → va_E) → Prop} (S : CallFix p m c cc nL s args Ts own) (hM : Met l y ws rm (xPre (.ref (ad q) :: As) D tys N ad B tR tK f) (xQi post D N ad B) 0 0 (xA B)) (cw : CallW R s args own C index y bytes maxL ret ws rm 0 0 n) (hK : va_K D vwCl tys s) (hE : xE tR tK B s) (hB : B ≤ s.heap.size) (hw : xw D vwCl N ad B s.heap f H locs) (hq : q < N) (he : f q = .inr (ci, fs)) (hc : vwCl[ci]? = some cq) (hC : cq.1 = C) (hst : st = As.reverse ++ .ref (ad q) :: rest) (hn : As.length = n) (hls : ls.size = nL) (hroom : (rest.map fun v => v.category).sum ≤ 8) (hf : cells ≤ R.cells ∧ slots ≤ R.slots) (hdg : decode cc pc = .ok (.invokevirtual index, 3))
    (kk : ∀ (r : Int32) (u : Nat → va_E) (H1 : Heap) (locs1 : List Loc), post r u → xw D vwCl N ad B s.heap u H1 locs1 → W p l e R s m args below meth c H1 locs1 cells slots Q (F0 m (pc + 3) ls (.int r :: rest))) : W p l e R s m args below meth c H locs cells slots Q (F0 m pc ls st) := by
  subst hst
  subst hC
  refine va_calli (va_runV (As := As) (rest := rest) S hM cw ⟨xPre.blind _ _ _ _ _ _ _ _ _, va_recv hK hw.1 hc (wd_cell hq he), fun U hU hW => x_pre hK hE hw hB _ U hU hW⟩ rfl hn hls rfl (lv_room hroom) hdg hf) hw.2 (fun _ _ h => h) (fun _ h => h) (fun r u t H1 locs1 ht _ hp hb _ _ hS => ?_)
  exact kk r u H1 locs1 hp ⟨by rw [← ht]; exact hb, hS⟩
theorem x_Vv {post : (Nat → va_E) → Prop} (S : CallFix p m c cc nL s args Ts own) (hM : Met l y ws rm (xPre (.ref (ad q) :: As) D tys N ad B tR tK f) (xQv post D N ad B) 0 0 (xA B)) (cw : CallW R s args own C index y bytes maxL ret ws rm 0 0 n) (hK : va_K D vwCl tys s) (hE : xE tR tK B s) (hB : B ≤ s.heap.size) (hw : xw D vwCl N ad B s.heap f H locs) (hq : q < N) (he : f q = .inr (ci, fs)) (hc : vwCl[ci]? = some cq) (hC : cq.1 = C) (hst : st = As.reverse ++ .ref (ad q) :: rest) (hn : As.length = n) (hls : ls.size = nL) (hroom : (rest.map fun v => v.category).sum ≤ 8) (hf : cells ≤ R.cells ∧ slots ≤ R.slots) (hdg : decode cc pc = .ok (.invokevirtual index, 3))
    (kk : ∀ (u : Nat → va_E) (H1 : Heap) (locs1 : List Loc), post u → xw D vwCl N ad B s.heap u H1 locs1 → W p l e R s m args below meth c H1 locs1 cells slots Q (F0 m (pc + 3) ls rest)) : W p l e R s m args below meth c H locs cells slots Q (F0 m pc ls st) := by
  subst hst
  subst hC
  refine va_callv (va_runV (As := As) (rest := rest) S hM cw ⟨xPre.blind _ _ _ _ _ _ _ _ _, va_recv hK hw.1 hc (wd_cell hq he), fun U hU hW => x_pre hK hE hw hB _ U hU hW⟩ rfl hn hls rfl (lv_room hroom) hdg hf) hw.2 (fun _ _ h => h) (fun _ h => h) (fun u t H1 locs1 ht _ hp hb _ _ hS => ?_)
  exact kk u H1 locs1 hp ⟨by rw [← ht]; exact hb, hS⟩
/-- a call of a static method that answers an int -/
theorem x_Si {post : Int32 → (Nat → va_E) → Prop} (S : CallFix p m c cc nL s args Ts own) (hM : Met l y ws rm (xPre As D tys N ad B tR tK f) (xQi post D N ad B) 0 0 (xA B)) (cw : CallB R s args own index y bytes maxL ret ws rm 0 0 n ∧ (Cond.static y).before args s = true) (hK : va_K D vwCl tys s) (hE : xE tR tK B s) (hB : B ≤ s.heap.size) (hw : xw D vwCl N ad B s.heap f H locs) (hst : st = As.reverse ++ rest) (hn : As.length = n) (hls : ls.size = nL) (hroom : (rest.map fun v => v.category).sum ≤ 8) (hf : cells ≤ R.cells ∧ slots ≤ R.slots) (hdg : decode cc pc = .ok (.invokestatic index, 3))
    (kk : ∀ (r : Int32) (u : Nat → va_E) (H1 : Heap) (locs1 : List Loc), post r u → xw D vwCl N ad B s.heap u H1 locs1 → W p l e R s m args below meth c H1 locs1 cells slots Q (F0 m (pc + 3) ls (.int r :: rest))) : W p l e R s m args below meth c H locs cells slots Q (F0 m pc ls st) := by
  subst hst
  refine va_calli (va_runS (As := As) (rest := rest) S hM cw ⟨xPre.blind _ _ _ _ _ _ _ _ _, fun U hU hW => x_pre hK hE hw hB _ U hU hW⟩ rfl hn hls rfl (lv_room hroom) hdg hf) hw.2 (fun _ _ h => h) (fun _ h => h) (fun r u t H1 locs1 ht _ hp hb _ _ hS => ?_)
  exact kk r u H1 locs1 hp ⟨by rw [← ht]; exact hb, hS⟩
/-- ends -/
theorem x_iret {post : Int32 → (Nat → va_E) → Prop} {v : Int32} (hx : p.tables.exec = Jvm.exec) (hb : c.code = cc) (hr : meth.sig.returnType = some .int) (hlocks : meth.locks = false) (hw : xw D vwCl N ad B s.heap f H locs) (hp : post v f) (hdg : decode cc pc = .ok (.ireturn, 1)) : W p l e R s m args below meth c H locs cells slots (MQ below (xQi post D N ad B) args s cells slots (xA B)) (F0 m pc ls [.int v]) :=
  W.iret hx hb hr (fun t ht _ => ⟨⟨v, f, rfl, hp, (show va_P D vwCl (wd N ad f) t.heap by rw [ht]; exact hw.1)⟩, hw.2.F ht⟩) hw.2.2.2 hdg hlocks
theorem x_zret {post : Int32 → (Nat → va_E) → Prop} {v : Int32} (hx : p.tables.exec = Jvm.exec) (hb : c.code = cc) (hr : meth.sig.returnType = some .boolean) (hlocks : meth.locks = false) (hw : xw D vwCl N ad B s.heap f H locs) (hv : v = 0 ∨ v = 1) (hp : post v f) (hdg : decode cc pc = .ok (.ireturn, 1)) : W p l e R s m args below meth c H locs cells slots (MQ below (xQi post D N ad B) args s cells slots (xA B)) (F0 m pc ls [.int v]) :=
  W.zret hx hb hr (by rcases hv with rfl | rfl <;> rfl) (fun t ht _ => ⟨⟨v, f, rfl, hp, (show va_P D vwCl (wd N ad f) t.heap by rw [ht]; exact hw.1)⟩, hw.2.F ht⟩) hw.2.2.2 hdg hlocks
theorem x_vret {post : (Nat → va_E) → Prop} (hx : p.tables.exec = Jvm.exec) (hb : c.code = cc) (hr : meth.sig.returnType = none) (hlocks : meth.locks = false) (hw : xw D vwCl N ad B s.heap f H locs) (hp : post f) (hdg : decode cc pc = .ok (.return_, 1)) : W p l e R s m args below meth c H locs cells slots (MQ below (xQv post D N ad B) args s cells slots (xA B)) (F0 m pc ls []) :=
  W.vret hx hb hr (fun t ht _ => ⟨⟨f, rfl, hp, (show va_P D vwCl (wd N ad f) t.heap by rw [ht]; exact hw.1)⟩, hw.2.F ht⟩) hw.2.2.2 hdg hlocks
/-- the static tables -/
theorem x_roots (hx : p.tables.exec = Jvm.exec) (hb : c.code = cc) (hE : xE tR tK B s) (hw : xw D vwCl N ad B s.heap f H locs) (hown : s.vm.findClass own = some m.cls) (hlink : (Cond.fieldLink own index RX1 "ROOTS" "[I").before args s = true) (hdg : decode cc pc = .ok (.getstatic index, 3)) (kk : W p l e R s m args below meth c H locs cells slots Q (F0 m (pc + 3) ls (.ref tR :: rest))) : W p l e R s m args below meth c H locs cells slots Q (F0 m pc ls rest) :=
  va_gets hx hb hE.2.2.1.1 hw.2 hown hlink (fun _ h => h) hdg kk
theorem x_kays (hx : p.tables.exec = Jvm.exec) (hb : c.code = cc) (hE : xE tR tK B s) (hw : xw D vwCl N ad B s.heap f H locs) (hown : s.vm.findClass own = some m.cls) (hlink : (Cond.fieldLink own index RX1 "K" "[I").before args s = true) (hdg : decode cc pc = .ok (.getstatic index, 3)) (kk : W p l e R s m args below meth c H locs cells slots Q (F0 m (pc + 3) ls (.ref tK :: rest))) : W p l e R s m args below meth c H locs cells slots Q (F0 m pc ls rest) :=
  va_gets hx hb hE.2.2.2.1 hw.2 hown hlink (fun _ h => h) hdg kk
theorem x_root (hx : p.tables.exec = Jvm.exec) (hb : c.code = cc) (hE : xE tR tK B s) (hw : xw D vwCl N ad B s.heap f H locs) {i : Int32} {j : Nat} (hi : i = nI j) (hj : j < 8) (hdg : decode cc pc = .ok (.iaload, 1)) (kk : W p l e R s m args below meth c H locs cells slots Q (F0 m (pc + 1) ls (.int (shR j) :: rest))) : W p l e R s m args below meth c H locs cells slots Q (F0 m pc ls (.int i :: .ref tR :: rest)) := by
  subst hi
  exact va_ti hx hb hE.2.2.1.2 hw.2 (vp_in_nI hj (by decide)) (by rw [nI_clamp (by omega)]) hdg kk
theorem x_kay (hx : p.tables.exec = Jvm.exec) (hb : c.code = cc) (hE : xE tR tK B s) (hw : xw D vwCl N ad B s.heap f H locs) {i : Int32} {j : Nat} (hi : i = nI j) (hj : j < 64) (hdg : decode cc pc = .ok (.iaload, 1)) (kk : W p l e R s m args below meth c H locs cells slots Q (F0 m (pc + 1) ls (.int (shK j) :: rest))) : W p l e R s m args below meth c H locs cells slots Q (F0 m pc ls (.int i :: .ref tK :: rest)) := by
  subst hi
  exact va_ti hx hb hE.2.2.2.2 hw.2 (vp_in_nI hj (by decide)) (by rw [nI_clamp (by omega)]) hdg kk
end XC
