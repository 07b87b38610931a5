/-! ===== rows that make cells: cell k lies at B + k ===== -/
def xAA (c4 c0 : ClassId) (U : State) : Prop := ∃ k : Class, U.vm.classes[c4]? = some k ∧ k.kind = .array c0 (.array .int)
theorem xAA.moved {c4 c0 : ClassId} {u U : State} (hvm : u.vm.Alike U.vm) (h : xAA c4 c0 u) : xAA c4 c0 U := by
  obtain ⟨k, h1, h2⟩ := h
  obtain ⟨k', hk', he⟩ := hvm.2.2 _ _ h1
  exact ⟨k', hk', by rw [he]; exact h2⟩
/-- what the makers of arrays of references take as given -/
def xO (ca : Nat → ClassId) (U : State) : Prop := va_AO RX0 U ∧ xAA (ca 4) (ca 0) U
theorem xO.moved {ca : Nat → ClassId} {u U : State} (hvm : u.vm.Alike U.vm) (h : xO ca u) : xO ca U := ⟨va_AO.moved hvm h.1, xAA.moved hvm h.2⟩
theorem xD_of {ad : Nat → Nat} {B : Nat} (h : ∀ k, ad k = B + k) (N : Nat) : xD N ad B := ⟨fun i j _ _ q => by rw [h, h] at q; omega, fun k _ => by rw [h]; omega⟩
theorem wd_next (N : Nat) (ad : Nat → Nat) (f : Nat → va_E) (e : va_E) : wd N ad f ++ [(ad N, e)] = wd (N + 1) ad (va_up f N e) := by
  rw [wd_push]
  congr 1
  funext j
  by_cases h : j = N
  · rw [h, va_up_self]
  · rw [va_up_ne _ _ h]
/-- the start of a constructor: as a method's, and the cells are all there is from B on -/
def xPreC (av : List Value) (D : va_G) (ca : Nat → ClassId) (N : Nat) (ad : Nat → Nat) (B tR tK : Nat) (f : Nat → va_E) : Array Value → State → Prop := va_Pc av (fun U => (B ≤ U.heap.size ∧ va_P D vwCl (wd N ad f) U.heap ∧ va_K D vwCl (xT ca) U ∧ xE tR tK B U) ∧ U.heap.size ≤ B + N ∧ xO ca U)
theorem xPreC.blind (av : List Value) (D : va_G) (ca : Nat → ClassId) (N : Nat) (ad : Nat → Nat) (B tR tK : Nat) (f : Nat → va_E) : FrameBlind (xPreC av D ca N ad B tR tK f) := by
  intro a U g mk h
  obtain ⟨h1, ⟨h2, h3, h4, h5⟩, h6, h7⟩ := h
  exact ⟨h1, ⟨h2, h3, va_K.moved (u := U) (U := U.calling g mk a) (Vm.Alike.refl U.vm) h4, h5.calling g mk a⟩, h6, xO.moved (u := U) (U := U.calling g mk a) (Vm.Alike.refl U.vm) h7⟩
abbrev xMc (l : Launch) (y : MethodName) (ws : List Cond) (rm : Room) (av : List Value) (D : va_G) (ca : Nat → ClassId) (N N1 : Nat) (ad : Nat → Nat) (B tR tK : Nat) (f : Nat → va_E) (post : (Nat → va_E) → Prop) (mc ms : Nat) : Prop := Met l y ws rm (xPreC av D ca N ad B tR tK f) (xQv post D N1 ad B) mc ms (xA B)
theorem x_openC {l : Launch} {y : MethodName} {ws ws' : List Cond} {rm : Room} {Qc : Array Value → State → Outcome → State → Prop} {mc ms : Nat} {cc : ByteArray} {maxL : Nat} {ret : Option FieldType} {av : List Value} {D : va_G} {ca : Nat → ClassId} {N : Nat} {ad : Nat → Nat} {B tR tK : Nat} {f : Nat → va_E} (hy : plainName y.cls = true) (hw : ws = Cond.code y cc maxL ret :: ws') (hlen : (lg_sl av).length ≤ maxL)
    (body : ∀ (p : Program) (e : Env) (s : State) (m : MethodId) (below : List Frame) (meth : Method) (c : Code) (ls : Array Slot), p.tables.exec = Jvm.exec → c.code = cc → c.maxLocals = maxL → s.vm.findClass y.cls = some m.cls → (∀ w ∈ ws, w.before av.toArray s = true) → meth.sig.returnType = ret → meth.locks = false → meth.name = y.name → B ≤ s.heap.size → va_K D vwCl (xT ca) s → xE tR tK B s → s.heap.size ≤ B + N → xO ca s → xw D vwCl N ad B s.heap f s.heap [] → lv_has ls maxL (lv_args 0 av) →
      W p l e rm s m av.toArray below meth c s.heap [] 0 0 (MQ below Qc av.toArray s mc ms (xA B)) (F0 m 0 ls [])) : Met l y ws rm (xPreC av D ca N ad B tR tK f) Qc mc ms (xA B) := by
  refine Met.ofW (cc := cc) (maxL := maxL) (ret := ret) hy hw ?_
  intro p e s m args below meth c s₁ Bd hml hv
  obtain ⟨rfl, ⟨hB, hP, hK, hE⟩, hz, hO⟩ := hv
  have hl := lv_entry av (n := maxL) hlen
  rw [lg_entry_eq]
  exact body p e s m below meth c _ Bd.exec Bd.bytes hml (findClass_of_methodNamed Bd.named) (atoms_spec (ws := ws) Bd.pre) Bd.returns Bd.notSynchronized (name_of_methodNamed Bd.named Bd.method).1 hB hK hE hz hO ⟨hP, va_S.rf⟩ hl
section XA
variable {p : Program} {l : Launch} {e : Env} {R : Room} {s : State} {m : MethodId} {args : Array Value} {below : List Frame} {meth : Method} {c : Code} {H : Heap} {locs : List Loc} {cells slots : Nat} {Q : State → Prop}
variable {cc : ByteArray} {pc nL : Nat} {ls : Array Slot} {As rest st : List Value} {D : va_G} {cl : List vw_C} {tys : List (ClassId × FieldType)} {N N1 : Nat} {ad : Nat → Nat} {B tR tK : Nat} {f : Nat → va_E} {ca : Nat → ClassId}
theorem x_sz {g : JFrame} (kk : H.size ≤ s.heap.size + cells → W p l e R s m args below meth c H locs cells slots Q g) : W p l e R s m args below meth c H locs cells slots Q g := fun T hT X => kk (by rw [← hT]; exact X.heapSize) T hT X
theorem x_addr (had : ∀ k, ad k = B + k) {q : Nat} {e0 : va_E} {H1 : Heap} (h1 : va_P D cl (wd N ad f ++ [(q, e0)]) H1) (h2 : va_D (xA B) (wd N ad f ++ [(q, e0)])) (hz : H1.size ≤ B + N + 1) : q = ad N := by
  have hN : (wd N ad f ++ [(q, e0)])[N]? = some (q, e0) := by
    rw [List.getElem?_append_right (by rw [wd_len]; exact Nat.le_refl N), wd_len, Nat.sub_self]
    rfl
  have a1 : q < H1.size := (h1 N _ hN).lt
  have a2 : B ≤ q := h2.2 N _ hN
  rw [had]
  rcases Nat.lt_or_ge q (B + N) with h | h
  · have hk : q - B < N := by omega
    have := h2.1 (q - B) N (ad (q - B), f (q - B)) (q, e0) (by rw [List.getElem?_append_left (by rw [wd_len]; exact hk)]; exact wd_get hk) hN (by show ad (q - B) = q; rw [had]; omega)
    omega
  · omega
theorem x_new (hx : p.tables.exec = Jvm.exec) (hb : c.code = cc) {own C : String} {T : u_T} {n ci index : Nat} {Ts : List Cond} (hts : ∀ w ∈ Ts, w.before args s = true) (hin : ∀ w ∈ u_ws C T n, w ∈ Ts) (ty : Nat → FieldType) (hty : ∀ k, k < n → parseFieldDescriptor (T k).2.2.1 = some (ty k)) (hown : s.vm.findClass own = some m.cls) (hcl : (Cond.classLink own index C).before args s = true) (hinst : (Cond.instantiable C n).before args s = true) (hini : (Cond.initialized C).before args s = true) (hK : va_K D cl tys s) (had : ∀ k, ad k = B + k) (hB : B ≤ s.heap.size) (hs : s.heap.size + cells ≤ B + N) (hw : xw D cl N ad B s.heap f H locs) (hc : cl[ci]? = some (C, T, n)) {fs : List Value} (hfs : ∀ j, j < n → defaultValue (ty j) = vp_V fs j) (hcells : cells + 1 ≤ R.cells) (hslots : slots + n ≤ R.slots) (hdg : decode cc pc = .ok (.new index, 3))
    (kk : ∀ H1 : Heap, xw D cl (N + 1) ad B s.heap (va_up f N (.inr (ci, fs))) H1 locs → W p l e R s m args below meth c H1 locs (cells + 1) (slots + n) Q (F0 m (pc + 3) ls (.ref (ad N) :: rest))) : W p l e R s m args below meth c H locs cells slots Q (F0 m pc ls rest) := by
  refine va_new hx hb hts hin ty hty hown hcl hinst hini hK hw.1 ((xD_of had N).va f) hw.2 (fun q hq => Nat.le_trans hB hq) hc hfs hcells hslots hdg (fun q H1 h1 h2 h3 => x_sz (fun hz => ?_))
  have hq := x_addr had h1 h2 (by omega)
  subst hq
  rw [wd_next] at h1
  exact kk H1 ⟨h1, h3⟩
theorem x_newa (hx : p.tables.exec = Jvm.exec) (hb : c.code = cc) {atype : ArrayType} (harr : (Cond.arrayClass (newarray.typeOf atype)).before args s = true) {ty : FieldType} (hty : newarray.typeOf atype = ty) (hK : va_K D cl tys s) (had : ∀ k, ad k = B + k) (hB : B ≤ s.heap.size) (hs : s.heap.size + cells ≤ B + N) (hw : xw D cl N ad B s.heap f H locs) (t0 : Nat) {cT : ClassId} (ht : tys[t0]? = some (cT, ty)) (hra : ∀ (U : State) (c1 : ClassId), va_RA U c1 ty → U.vm.findClass ("[" ++ ty.toString) = some c1)
    {n : Int32} {N' : Nat} {z : vp_A} (ha : ∀ cA : ClassId, vp_cell cA z = arrV cA N' (fun _ => defaultValue ty)) (hn : ¬ n < 0) (hN : n.toNatClampNeg = N') (hbytes : N' * componentBytes ty ≤ 536870912) (hcells : cells + 1 ≤ R.cells) (hslots : slots + N' ≤ R.slots) (hdg : decode cc pc = .ok (.newarray atype, 2))
    (kk : ∀ H1 : Heap, xw D cl (N + 1) ad B s.heap (va_up f N (.inl (cT, z))) H1 locs → W p l e R s m args below meth c H1 locs (cells + 1) (slots + N') Q (F0 m (pc + 2) ls (.ref (ad N) :: rest))) : W p l e R s m args below meth c H locs cells slots Q (F0 m pc ls (.int n :: rest)) := by
  refine va_newa hx hb harr hty hK hw.1 ((xD_of had N).va f) hw.2 (fun q hq => Nat.le_trans hB hq) ha hn hN hbytes hcells hslots hdg (fun q cA H1 k1 h1 h2 h3 => x_sz (fun hz => ?_))
  have hq := x_addr had h1 h2 (by omega)
  subst hq
  have e1 := hra s cA (k1.2 tys.length (cA, ty) (by rw [List.getElem?_append_right (Nat.le_refl _), Nat.sub_self]; rfl)).2
  have e2 := hra s cT (hK.2 t0 _ ht).2
  rw [e1] at e2
  cases e2
  rw [wd_next] at h1
  exact kk H1 ⟨h1, h3⟩
theorem x_newq (hx : p.tables.exec = Jvm.exec) (hb : c.code = cc) {own C : String} {index : Nat} (hown : s.vm.findClass own = some m.cls) (hclink : (Cond.classLink own index C).before args s = true) (hover : va_AO C s) (hK : va_K D cl tys s) (had : ∀ k, ad k = B + k) (hB : B ≤ s.heap.size) (hs : s.heap.size + cells ≤ B + N) (hw : xw D cl N ad B s.heap f H locs) (t0 : Nat) {cT : ClassId} (ht : tys[t0]? = some (cT, .object C)) {n : Int32} {N' : Nat} (hn : ¬ n < 0) (hN : n.toNatClampNeg = N') (hbytes : N' * 4 ≤ 536870912) (hcells : cells + 1 ≤ R.cells) (hslots : slots + N' ≤ R.slots) (hdg : decode cc pc = .ok (.anewarray index, 3))
    (kk : ∀ H1 : Heap, xw D cl (N + 1) ad B s.heap (va_up f N (aq cT N' (fun _ => none))) H1 locs → W p l e R s m args below meth c H1 locs (cells + 1) (slots + N') Q (F0 m (pc + 3) ls (.ref (ad N) :: rest))) : W p l e R s m args below meth c H locs cells slots Q (F0 m pc ls (.int n :: rest)) := by
  refine va_newq hx hb hown hclink hover hK hw.1 ((xD_of had N).va f) hw.2 (fun q hq => Nat.le_trans hB hq) hn hN hbytes hcells hslots hdg (fun q cA H1 k1 h1 h2 h3 => x_sz (fun hz => ?_))
  have hq := x_addr had h1 h2 (by omega)
  subst hq
  obtain ⟨-, -, -, -, -, e1⟩ := (k1.2 tys.length (cA, .object C) (by rw [List.getElem?_append_right (Nat.le_refl _), Nat.sub_self]; rfl)).2
  obtain ⟨-, -, -, -, -, e2⟩ := (hK.2 t0 _ ht).2
  rw [e1] at e2
  cases e2
  rw [wd_next] at h1
  exact kk H1 ⟨h1, h3⟩
theorem x_putF (hx : p.tables.exec = Jvm.exec) (hb : c.code = cc) {own ref C : String} {T : u_T} {n ci index : Nat} {Ts : List Cond} (hts : ∀ w ∈ Ts, w.before args s = true) (hin : ∀ w ∈ u_ws C T n, w ∈ Ts) (ty0 : Nat → FieldType) (hty : ∀ k, k < n → parseFieldDescriptor (T k).2.2.1 = some (ty0 k)) (hnm : ∀ a, a < n → ∀ b, b < n → a ≠ b → (T a).2.1 ≠ (T b).2.1) (hown : s.vm.findClass own = some m.cls) (hK : va_K D cl tys s) (dd : xD N ad B) (hw : xw D cl N ad B s.heap f H locs) (q : Nat) (hq : q < N) {fs fs' : List Value} (he : f q = .inr (ci, fs)) (hc : cl[ci]? = some (C, T, n)) (k : Nat) (hk : k < n) (hlink : (Cond.fieldLink own index ref (T k).2.1 (T k).2.2.1).before args s = true) (hsame : ∀ x, s.fieldFound? (T k).1 (T k).2.1 (T k).2.2.1 = some x → s.fieldFound? ref (T k).2.1 (T k).2.2.1 = some x) (hfin : (T k).2.2.2 = true) (hin2 : meth.name = "<init>") (hdecl : (T k).1 = own) {v : Value} (hn : narrow (ty0 k) v = v) (hfit : fits (ty0 k) v = true) (hl : k < fs.length) (hfs : fs.set k v = fs')
    (hdg : decode cc pc = .ok (.putfield index, 3)) (kk : ∀ (H1 : Heap) (locs1 : List Loc), xw D cl N ad B s.heap (va_up f q (.inr (ci, fs'))) H1 locs1 → W p l e R s m args below meth c H1 locs1 cells slots Q (F0 m (pc + 3) ls rest)) : W p l e R s m args below meth c H locs cells slots Q (F0 m pc ls (v :: .ref (ad q) :: rest)) := by
  refine va_putF hx hb hts hin ty0 hty hnm hown hK hw.1 (dd.va f) hw.2 q (wd_cell hq he) hc k hk hlink hsame hfin hin2 hdecl (hty k hk) hn hfit hl hdg (fun H1 locs1 h1 _ h3 => kk H1 locs1 ⟨?_, h3⟩)
  rw [← wd_set, ← hfs]
  exact h1
theorem x_astq (hx : p.tables.exec = Jvm.exec) (hb : c.code = cc) (hK : va_K D cl tys s) (dd : xD N ad B) (hw : xw D cl N ad B s.heap f H locs) (q t0 qk ci : Nat) (hq : q < N) (hqk : qk < N) {cA : ClassId} {r : vw_C} {n : Nat} {vs : List Value} {g : Nat → Option Nat} (he : f q = aq cA n g) (ht : tys[t0]? = some (cA, .object r.1)) (hv : f qk = .inr (ci, vs)) (hc : cl[ci]? = some r) {i : Int32} {j : Nat} (hi : i = nI j) (hj : j < n) (hn : n < 2 ^ 31) (hdg : decode cc pc = .ok (.aastore, 1))
    (kk : ∀ (H1 : Heap) (locs1 : List Loc), xw D cl N ad B s.heap (va_up f q (aq cA n (va_up g j (some (ad qk))))) H1 locs1 → W p l e R s m args below meth c H1 locs1 cells slots Q (F0 m (pc + 1) ls rest)) : W p l e R s m args below meth c H locs cells slots Q (F0 m pc ls (.ref (ad qk) :: .int i :: .ref (ad q) :: rest)) := by
  subst hi
  refine va_astq hx hb hK hw.1 (dd.va f) hw.2 q t0 qk ci (wd_cell hq he) ht (wd_cell hqk hv) hc (vp_in_nI hj hn) hdg (fun H1 locs1 h1 _ h3 => kk H1 locs1 ⟨?_, h3⟩)
  rw [← wd_set]
  rw [nI_clamp (by omega)] at h1
  exact h1
theorem x_preC (hK : va_K D vwCl (xT ca) s) (hE : xE tR tK B s) (hO : xO ca s) (hw : xw D vwCl N ad B s.heap f H locs) (hB : B ≤ s.heap.size) (hz : H.size ≤ B + N) (av : List Value) (U : State) (hU : U.heap = H) (hW : s.WarmedH U.vm) : xPreC av D ca N ad B tR tK f av.toArray U := by
  refine ⟨rfl, ⟨by rw [hU]; exact Nat.le_trans hB hw.2.1, by rw [hU]; exact hw.1, va_K.moved hW.alike hK, ?_⟩, by rw [hU]; exact hz, hO.moved hW.alike⟩
  exact hE.warm hW (by rw [hU]; exact hw.2)
/-- a constructor is called -/
theorem x_I {post : (Nat → va_E) → Prop} {y : MethodName} {bytes : ByteArray} {maxL n index mc ms q : Nat} {ws Ts : List Cond} {rm : Room} {own : String} (S : CallFix p m c cc nL s args Ts own) (hM : Met l y ws rm (xPreC (.ref (ad q) :: As) D ca N ad B tR tK f) (xQv post D N1 ad B) mc ms (xA B)) (cw : CallB R s args own index y bytes maxL none ws rm mc ms n ∧ y.name = "<init>" ∧ (Cond.instanceMethod y).before args s = true) (hK : va_K D vwCl (xT ca) s) (hE : xE tR tK B s) (hO : xO ca s) (hB : B ≤ s.heap.size) (hs : s.heap.size + cells ≤ B + N) (hw : xw D vwCl N ad B s.heap f H locs) (hst : st = As.reverse ++ .ref (ad q) :: rest) (hn : As.length = n) (hls : ls.size = nL) (hroom : (rest.map fun v => v.category).sum ≤ 8) (hf : cells + mc ≤ R.cells ∧ slots + ms ≤ R.slots) (hdg : decode cc pc = .ok (.invokespecial index, 3))
    (kk : ∀ (u : Nat → va_E) (H1 : Heap) (locs1 : List Loc), post u → xw D vwCl N1 ad B s.heap u H1 locs1 → W p l e R s m args below meth c H1 locs1 (cells + mc) (slots + ms) Q (F0 m (pc + 3) ls rest)) : W p l e R s m args below meth c H locs cells slots Q (F0 m pc ls st) := by
  subst hst
  refine x_sz (fun hz => ?_)
  refine va_callv (va_runI (As := As) (rest := rest) S hM cw ⟨xPreC.blind _ _ _ _ _ _ _ _ _, fun U hU hW => x_preC hK hE hO hw hB (by omega) _ U hU hW⟩ rfl hn hls rfl (lv_room hroom) hdg hf) hw.2 (fun _ _ h => h) (fun _ h => h) (fun u t H1 locs1 ht _ hp hb _ _ hS => ?_)
  exact kk u H1 locs1 hp ⟨by rw [← ht]; exact hb, hS⟩
theorem x_IN {post : (Nat → va_E) → Prop} {y : MethodName} {bytes : ByteArray} {maxL n index mc ms q : Nat} {ws Ts : List Cond} {rm : Room} {own host : String} (S : CallFix p m c cc nL s args Ts own) (hM : Met l y ws rm (xPreC (.ref (ad q) :: As) D ca N ad B tR tK f) (xQv post D N1 ad B) mc ms (xA B)) (cw : va_CN R s args own index y host bytes maxL none ws rm mc ms n ∧ y.name = "<init>" ∧ (Cond.instanceMethod y).before args s = true) (hK : va_K D vwCl (xT ca) s) (hE : xE tR tK B s) (hO : xO ca s) (hB : B ≤ s.heap.size) (hs : s.heap.size + cells ≤ B + N) (hw : xw D vwCl N ad B s.heap f H locs) (hst : st = As.reverse ++ .ref (ad q) :: rest) (hn : As.length = n) (hls : ls.size = nL) (hroom : (rest.map fun v => v.category).sum ≤ 8) (hf : cells + mc ≤ R.cells ∧ slots + ms ≤ R.slots) (hdg : decode cc pc = .ok (.invokespecial index, 3))
    (kk : ∀ (u : Nat → va_E) (H1 : Heap) (locs1 : List Loc), post u → xw D vwCl N1 ad B s.heap u H1 locs1 → W p l e R s m args below meth c H1 locs1 (cells + mc) (slots + ms) Q (F0 m (pc + 3) ls rest)) : W p l e R s m args below meth c H locs cells slots Q (F0 m pc ls st) := by
  subst hst
  refine x_sz (fun hz => ?_)
  refine va_callv (va_runIN (As := As) (rest := rest) S hM cw ⟨xPreC.blind _ _ _ _ _ _ _ _ _, fun U hU hW => x_preC hK hE hO hw hB (by omega) _ U hU hW⟩ rfl hn hls rfl (lv_room hroom) hdg hf) hw.2 (fun _ _ h => h) (fun _ h => h) (fun u t H1 locs1 ht _ hp hb _ _ hS => ?_)
  exact kk u H1 locs1 hp ⟨by rw [← ht]; exact hb, hS⟩
end XA
