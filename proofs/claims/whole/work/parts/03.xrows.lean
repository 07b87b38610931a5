/-! ===== rows over numbered cells ===== -/
section XR
variable {p : Program} {l : Launch} {e : Env} {R : Room} {s : State} {m : MethodId} {args : Array Value} {below : List Frame} {meth : Method} {c : Code} {H : Heap} {locs : List Loc} {cells slots : Nat} {Q : State → Prop}
variable {cc : ByteArray} {pc : Nat} {ls : Array Slot} {rest : List Value} {D : va_G} {cl : List vw_C} {tys : List (ClassId × FieldType)} {N : Nat} {ad : Nat → Nat} {B : Nat} {f : Nat → va_E}
theorem wd_cell {k : Nat} {e0 : va_E} (h : k < N) (he : f k = e0) : (wd N ad f)[k]? = some (ad k, e0) := by rw [wd_get h, he]
theorem x_get (hx : p.tables.exec = Jvm.exec) (hb : c.code = cc) {own ref C : String} {T : u_T} {n ci index : Nat} {Ts : List Cond} (hts : ∀ w ∈ Ts, w.before args s = true) (hin : ∀ w ∈ u_ws C T n, w ∈ Ts) (hown : s.vm.findClass own = some m.cls) (hK : va_K D cl tys s) (hw : xw D cl N ad B s.heap f H locs) (q : Nat) (hq : q < N) {fs : List Value} (he : f q = .inr (ci, fs)) (hc : cl[ci]? = some (C, T, n)) (k : Nat) (hk : k < n) (hlink : (Cond.fieldLink own index ref (T k).2.1 (T k).2.2.1).before args s = true) (hsame : ∀ x, s.fieldFound? (T k).1 (T k).2.1 (T k).2.2.1 = some x → s.fieldFound? ref (T k).2.1 (T k).2.2.1 = some x) {v : Value} (hv : fs[k]? = some v) (hdg : decode cc pc = .ok (.getfield index, 3))
    (kk : W p l e R s m args below meth c H locs cells slots Q (F0 m (pc + 3) ls (v :: rest))) : W p l e R s m args below meth c H locs cells slots Q (F0 m pc ls (.ref (ad q) :: rest)) :=
  va_get hx hb hts hin hown hK hw.1 q (wd_cell hq he) hc k hk hlink hsame hv hdg kk
theorem x_getN (hx : p.tables.exec = Jvm.exec) (hb : c.code = cc) {own ref C host : String} {T : u_T} {n ci index : Nat} {Ts : List Cond} (hts : ∀ w ∈ Ts, w.before args s = true) (hin : ∀ w ∈ u_ws C T n, w ∈ Ts) (hown : s.vm.findClass own = some m.cls) (hK : va_K D cl tys s) (hw : xw D cl N ad B s.heap f H locs) (q : Nat) (hq : q < N) {fs : List Value} (he : f q = .inr (ci, fs)) (hc : cl[ci]? = some (C, T, n)) (k : Nat) (hk : k < n) (hlink : va_Nw (.fieldLinkNest own index ref (T k).2.1 (T k).2.2.1 host) s) (hsame : ∀ x, s.fieldFound? (T k).1 (T k).2.1 (T k).2.2.1 = some x → s.fieldFound? ref (T k).2.1 (T k).2.2.1 = some x) {v : Value} (hv : fs[k]? = some v) (hdg : decode cc pc = .ok (.getfield index, 3))
    (kk : W p l e R s m args below meth c H locs cells slots Q (F0 m (pc + 3) ls (v :: rest))) : W p l e R s m args below meth c H locs cells slots Q (F0 m pc ls (.ref (ad q) :: rest)) :=
  va_getN hx hb hts hin hown hK hw.1 q (wd_cell hq he) hc k hk (va_Nw.use rfl hlink) hsame hv hdg kk
theorem x_put (hx : p.tables.exec = Jvm.exec) (hb : c.code = cc) {own ref C : String} {T : u_T} {n ci index : Nat} {Ts : List Cond} (hts : ∀ w ∈ Ts, w.before args s = true) (hin : ∀ w ∈ u_ws C T n, w ∈ Ts) (ty0 : Nat → FieldType) (hty : ∀ k, k < n → parseFieldDescriptor (T k).2.2.1 = some (ty0 k)) (hnm : ∀ a, a < n → ∀ b, b < n → a ≠ b → (T a).2.1 ≠ (T b).2.1) (hown : s.vm.findClass own = some m.cls) (hK : va_K D cl tys s) (dd : xD N ad B) (hw : xw D cl N ad B s.heap f H locs) (q : Nat) (hq : q < N) {fs fs' : List Value} (he : f q = .inr (ci, fs)) (hc : cl[ci]? = some (C, T, n)) (k : Nat) (hk : k < n) (hlink : (Cond.fieldLink own index ref (T k).2.1 (T k).2.2.1).before args s = true) (hsame : ∀ x, s.fieldFound? (T k).1 (T k).2.1 (T k).2.2.1 = some x → s.fieldFound? ref (T k).2.1 (T k).2.2.1 = some x) (hfin : (T k).2.2.2 = false) {v : Value} (hn : narrow (ty0 k) v = v) (hfit : fits (ty0 k) v = true) (hl : k < fs.length) (hfs : fs.set k v = fs')
    (hdg : decode cc pc = .ok (.putfield index, 3)) (kk : ∀ (H1 : Heap) (locs1 : List Loc), xw D cl N ad B s.heap (va_up f q (.inr (ci, fs'))) H1 locs1 → W p l e R s m args below meth c H1 locs1 cells slots Q (F0 m (pc + 3) ls rest)) : W p l e R s m args below meth c H locs cells slots Q (F0 m pc ls (v :: .ref (ad q) :: rest)) := by
  refine va_put hx hb hts hin ty0 hty hnm hown hK hw.1 (dd.va f) hw.2 q (wd_cell hq he) hc k hk hlink hsame hfin (hty k hk) hn hfit hl hdg (fun H1 locs1 h1 _ h3 => kk H1 locs1 ⟨?_, h3⟩)
  rw [← wd_set, ← hfs]
  exact h1
theorem x_putN (hx : p.tables.exec = Jvm.exec) (hb : c.code = cc) {own ref C host : String} {T : u_T} {n ci index : Nat} {Ts : List Cond} (hts : ∀ w ∈ Ts, w.before args s = true) (hin : ∀ w ∈ u_ws C T n, w ∈ Ts) (ty0 : Nat → FieldType) (hty : ∀ k, k < n → parseFieldDescriptor (T k).2.2.1 = some (ty0 k)) (hnm : ∀ a, a < n → ∀ b, b < n → a ≠ b → (T a).2.1 ≠ (T b).2.1) (hown : s.vm.findClass own = some m.cls) (hK : va_K D cl tys s) (dd : xD N ad B) (hw : xw D cl N ad B s.heap f H locs) (q : Nat) (hq : q < N) {fs fs' : List Value} (he : f q = .inr (ci, fs)) (hc : cl[ci]? = some (C, T, n)) (k : Nat) (hk : k < n) (hlink : va_Nw (.fieldLinkNest own index ref (T k).2.1 (T k).2.2.1 host) s) (hsame : ∀ x, s.fieldFound? (T k).1 (T k).2.1 (T k).2.2.1 = some x → s.fieldFound? ref (T k).2.1 (T k).2.2.1 = some x) (hfin : (T k).2.2.2 = false) {v : Value} (hn : narrow (ty0 k) v = v) (hfit : fits (ty0 k) v = true) (hl : k < fs.length) (hfs : fs.set k v = fs')
    (hdg : decode cc pc = .ok (.putfield index, 3)) (kk : ∀ (H1 : Heap) (locs1 : List Loc), xw D cl N ad B s.heap (va_up f q (.inr (ci, fs'))) H1 locs1 → W p l e R s m args below meth c H1 locs1 cells slots Q (F0 m (pc + 3) ls rest)) : W p l e R s m args below meth c H locs cells slots Q (F0 m pc ls (v :: .ref (ad q) :: rest)) := by
  refine va_putN hx hb hts hin ty0 hty hnm hown hK hw.1 (dd.va f) hw.2 q (wd_cell hq he) hc k hk (va_Nw.use rfl hlink) hsame hfin (hty k hk) hn hfit hl hdg (fun H1 locs1 h1 _ h3 => kk H1 locs1 ⟨?_, h3⟩)
  rw [← wd_set, ← hfs]
  exact h1
theorem x_iald (hx : p.tables.exec = Jvm.exec) (hb : c.code = cc) (hK : va_K D cl tys s) (hw : xw D cl N ad B s.heap f H locs) (q t0 : Nat) (hq : q < N) {cA : ClassId} {n : Nat} {g : Nat → Int32} (he : f q = ai cA n g) (ht : tys[t0]? = some (cA, .int)) {i : Int32} {j : Nat} (hi : i = nI j) (hj : j < n) (hn : n < 2 ^ 31) (hdg : decode cc pc = .ok (.iaload, 1))
    (kk : W p l e R s m args below meth c H locs cells slots Q (F0 m (pc + 1) ls (.int (g j) :: rest))) : W p l e R s m args below meth c H locs cells slots Q (F0 m pc ls (.int i :: .ref (ad q) :: rest)) := by
  subst hi
  refine va_iald hx hb hK hw.1 q t0 (wd_cell hq he) ht (vp_in_nI hj hn) hdg ?_
  rw [nI_clamp (by omega)]
  exact kk
theorem x_bald (hx : p.tables.exec = Jvm.exec) (hb : c.code = cc) (hK : va_K D cl tys s) (hw : xw D cl N ad B s.heap f H locs) (q t0 : Nat) (hq : q < N) {cA : ClassId} {n : Nat} {g : Nat → Int32} (he : f q = ai cA n g) (ht : tys[t0]? = some (cA, .byte)) {i : Int32} {j : Nat} (hi : i = nI j) (hj : j < n) (hn : n < 2 ^ 31) (hdg : decode cc pc = .ok (.baload, 1))
    (kk : W p l e R s m args below meth c H locs cells slots Q (F0 m (pc + 1) ls (.int (g j) :: rest))) : W p l e R s m args below meth c H locs cells slots Q (F0 m pc ls (.int i :: .ref (ad q) :: rest)) := by
  subst hi
  refine va_bald hx hb hK hw.1 q t0 (wd_cell hq he) ht (vp_in_nI hj hn) hdg ?_
  rw [nI_clamp (by omega)]
  exact kk
theorem x_zald (hx : p.tables.exec = Jvm.exec) (hb : c.code = cc) (hK : va_K D cl tys s) (hw : xw D cl N ad B s.heap f H locs) (q t0 : Nat) (hq : q < N) {cA : ClassId} {n : Nat} {g : Nat → Int32} (he : f q = ai cA n g) (ht : tys[t0]? = some (cA, .boolean)) {i : Int32} {j : Nat} (hi : i = nI j) (hj : j < n) (hn : n < 2 ^ 31) (hdg : decode cc pc = .ok (.baload, 1))
    (kk : W p l e R s m args below meth c H locs cells slots Q (F0 m (pc + 1) ls (.int (g j) :: rest))) : W p l e R s m args below meth c H locs cells slots Q (F0 m pc ls (.int i :: .ref (ad q) :: rest)) := by
  subst hi
  refine va_zald hx hb hK hw.1 q t0 (wd_cell hq he) ht (vp_in_nI hj hn) hdg ?_
  rw [nI_clamp (by omega)]
  exact kk
theorem x_iast (hx : p.tables.exec = Jvm.exec) (hb : c.code = cc) (hK : va_K D cl tys s) (dd : xD N ad B) (hw : xw D cl N ad B s.heap f H locs) (q t0 : Nat) (hq : q < N) {cA : ClassId} {n : Nat} {g : Nat → Int32} (he : f q = ai cA n g) (ht : tys[t0]? = some (cA, .int)) {i x : Int32} {j : Nat} (hi : i = nI j) (hj : j < n) (hn : n < 2 ^ 31) (hdg : decode cc pc = .ok (.iastore, 1))
    (kk : ∀ (H1 : Heap) (locs1 : List Loc), xw D cl N ad B s.heap (va_up f q (ai cA n (upd g j x))) H1 locs1 → W p l e R s m args below meth c H1 locs1 cells slots Q (F0 m (pc + 1) ls rest)) : W p l e R s m args below meth c H locs cells slots Q (F0 m pc ls (.int x :: .int i :: .ref (ad q) :: rest)) := by
  subst hi
  refine va_iast hx hb hK hw.1 (dd.va f) hw.2 q t0 (wd_cell hq he) ht (vp_in_nI hj hn) hdg (fun H1 locs1 h1 _ h3 => kk H1 locs1 ⟨?_, h3⟩)
  rw [← wd_set]
  rw [nI_clamp (by omega)] at h1
  exact h1
theorem x_bast (hx : p.tables.exec = Jvm.exec) (hb : c.code = cc) (hK : va_K D cl tys s) (dd : xD N ad B) (hw : xw D cl N ad B s.heap f H locs) (q t0 : Nat) (hq : q < N) {cA : ClassId} {n : Nat} {g : Nat → Int32} (he : f q = ai cA n g) (ht : tys[t0]? = some (cA, .byte)) {i x y : Int32} {j : Nat} (hi : i = nI j) (hj : j < n) (hn : n < 2 ^ 31) (hy : x.toInt8.toInt32 = y) (hdg : decode cc pc = .ok (.bastore, 1))
    (kk : ∀ (H1 : Heap) (locs1 : List Loc), xw D cl N ad B s.heap (va_up f q (ai cA n (upd g j y))) H1 locs1 → W p l e R s m args below meth c H1 locs1 cells slots Q (F0 m (pc + 1) ls rest)) : W p l e R s m args below meth c H locs cells slots Q (F0 m pc ls (.int x :: .int i :: .ref (ad q) :: rest)) := by
  subst hi
  refine va_bast hx hb hK hw.1 (dd.va f) hw.2 q t0 (wd_cell hq he) ht (vp_in_nI hj hn) hdg (fun H1 locs1 h1 _ h3 => kk H1 locs1 ⟨?_, h3⟩)
  rw [← wd_set, ← hy]
  rw [nI_clamp (by omega), vp_nar_byte] at h1
  exact h1
theorem x_zast (hx : p.tables.exec = Jvm.exec) (hb : c.code = cc) (hK : va_K D cl tys s) (dd : xD N ad B) (hw : xw D cl N ad B s.heap f H locs) (q t0 : Nat) (hq : q < N) {cA : ClassId} {n : Nat} {g : Nat → Int32} (he : f q = ai cA n g) (ht : tys[t0]? = some (cA, .boolean)) {i x : Int32} {j : Nat} (hi : i = nI j) (hj : j < n) (hn : n < 2 ^ 31) (hy : x = 0 ∨ x = 1) (hdg : decode cc pc = .ok (.bastore, 1))
    (kk : ∀ (H1 : Heap) (locs1 : List Loc), xw D cl N ad B s.heap (va_up f q (ai cA n (upd g j x))) H1 locs1 → W p l e R s m args below meth c H1 locs1 cells slots Q (F0 m (pc + 1) ls rest)) : W p l e R s m args below meth c H locs cells slots Q (F0 m pc ls (.int x :: .int i :: .ref (ad q) :: rest)) := by
  subst hi
  refine va_zast hx hb hK hw.1 (dd.va f) hw.2 q t0 (wd_cell hq he) ht (vp_in_nI hj hn) hdg (fun H1 locs1 h1 _ h3 => kk H1 locs1 ⟨?_, h3⟩)
  rw [← wd_set]
  have hz : vp_nar .boolean x = x := by rcases hy with rfl | rfl <;> rfl
  rw [nI_clamp (by omega), hz] at h1
  exact h1
theorem x_alen (hx : p.tables.exec = Jvm.exec) (hb : c.code = cc) (hK : va_K D cl tys s) (hw : xw D cl N ad B s.heap f H locs) (q t0 : Nat) (hq : q < N) {cA : ClassId} {n : Nat} {g : Nat → Int32} (he : f q = ai cA n g) {ty : FieldType} (ht : tys[t0]? = some (cA, ty)) (hdg : decode cc pc = .ok (.arraylength, 1))
    (kk : W p l e R s m args below meth c H locs cells slots Q (F0 m (pc + 1) ls (.int (nI n) :: rest))) : W p l e R s m args below meth c H locs cells slots Q (F0 m pc ls (.ref (ad q) :: rest)) :=
  va_alen hx hb hK hw.1 q t0 (wd_cell hq he) ht rfl hdg kk
theorem x_aald (hx : p.tables.exec = Jvm.exec) (hb : c.code = cc) (hK : va_K D cl tys s) (hw : xw D cl N ad B s.heap f H locs) (q t0 : Nat) (hq : q < N) {cA : ClassId} {C : String} {n : Nat} {g : Nat → Option Nat} (he : f q = aq cA n g) (ht : tys[t0]? = some (cA, .object C)) {i : Int32} {j a : Nat} (hi : i = nI j) (hj : j < n) (hn : n < 2 ^ 31) (hg : g j = some a) (hdg : decode cc pc = .ok (.aaload, 1))
    (kk : W p l e R s m args below meth c H locs cells slots Q (F0 m (pc + 1) ls (.ref a :: rest))) : W p l e R s m args below meth c H locs cells slots Q (F0 m pc ls (.int i :: .ref (ad q) :: rest)) := by
  subst hi
  refine va_aldq hx hb hK hw.1 q t0 (wd_cell hq he) ht (vp_in_nI hj hn) hdg ?_
  rw [nI_clamp (by omega), hg]
  exact kk
/-- a row of an array of arrays -/
theorem x_aaldA (hx : p.tables.exec = Jvm.exec) (hb : c.code = cc) (hK : va_K D cl tys s) (hw : xw D cl N ad B s.heap f H locs) (q t0 : Nat) (hq : q < N) {cA : ClassId} {ty : FieldType} {n : Nat} {g : Nat → Option Nat} (he : f q = aq cA n g) (ht : tys[t0]? = some (cA, .array ty)) {i : Int32} {j a : Nat} (hi : i = nI j) (hj : j < n) (hn : n < 2 ^ 31) (hg : g j = some a) (hdg : decode cc pc = .ok (.aaload, 1))
    (kk : W p l e R s m args below meth c H locs cells slots Q (F0 m (pc + 1) ls (.ref a :: rest))) : W p l e R s m args below meth c H locs cells slots Q (F0 m pc ls (.int i :: .ref (ad q) :: rest)) := by
  subst hi
  have hin := vp_in_nI hj hn
  have hlt : (nI j).toNatClampNeg < n := Nat.not_le.mp fun z => hin (Or.inr z)
  have hcell : H[ad q]? = some (vp_cell cA (n, .inr (.inr (.inr (.inr g))))) := by
    have := hw.1 q _ (wd_cell hq he)
    exact this
  have hr : va_rf (g (nI j).toNatClampNeg) = .ref a := by rw [nI_clamp (by omega), hg]; rfl
  exact W.aald (v := .ref a) (ty := .array ty) hx hb hcell ((hK.2 t0 _ ht).1 n (fun j => va_rf (g j))) rfl (fun q => by cases q) (by show ¬ (nI j < 0 ∨ (arrV _ _ _).slots.size ≤ _); rw [arrV_size]; exact hin) (by show (arrV _ _ _).slots[_]? = _; rw [arrV_read _ _ hlt, hr]) rfl rfl hdg kk
end XR
