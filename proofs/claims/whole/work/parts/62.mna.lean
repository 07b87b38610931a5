/-! ===== new int[n][m]: the outer array, then row by row ===== -/
theorem xw_push {D : va_G} {cl : List vw_C} {N : Nat} {ad : Nat → Nat} {B : Nat} {H0 H H1 : Heap} {f : Nat → va_E} {locs : List Loc} {cA : ClassId} {z : vp_A} (hw : xw D cl N ad B H0 f H locs) (hN : ad N = H.size) (h1 : H1[H.size]? = some (vp_cell cA z)) (h2 : ∀ q : Nat, q < H.size → H1[q]? = H[q]?) (h3 : H1.size = H.size + 1) : xw D cl (N + 1) ad B H0 (va_up f N (.inl (cA, z))) H1 locs := by
  rw [xw, ← wd_next, hN]
  refine ⟨(hw.1.kept (fun k x hx => h2 x.1 ((hw.1 k x hx).lt))).app (fun k x hx => ?_), Nat.le_trans hw.2.1 (by omega), fun x a1 a2 => (h2 x (Nat.lt_of_lt_of_le a1 hw.2.1)).trans (hw.2.2.1 x a1 a2), hw.2.2.2⟩
  have hz : k < 1 := (List.getElem?_eq_some_iff.mp hx).1
  rw [show k = 0 by omega] at hx
  cases hx
  exact h1
theorem xw_store {D : va_G} {cl : List vw_C} {N : Nat} {ad : Nat → Nat} {B : Nat} {H0 H H1 : Heap} {f : Nat → va_E} {locs : List Loc} {cA : ClassId} {z : vp_A} (hw : xw D cl N ad B H0 f H locs) (dd : xD N ad B) {q : Nat} (hq : q < N) (h1 : H1[ad q]? = some (vp_cell cA z)) (h2 : ∀ a : Nat, a ≠ ad q → H1[a]? = H[a]?) (h3 : H1.size = H.size) (k : Nat) : xw D cl N ad B H0 (va_up f q (.inl (cA, z))) H1 (locs ++ [⟨ad q, k⟩]) := by
  rw [xw, ← wd_set]
  exact ⟨hw.1.set (dd.va f) (wd_get hq) h1 h2, hw.2.put h3 h2 (dd.2 q hq)⟩
/-- which rows hang in the outer array behind i rounds; a the outer array's address -/
def mnG (a i : Nat) : Nat → Option Nat := fun t => if t < i then some (a + 1 + t) else none
def mnS (U : State) (c4 c0 : ClassId) (n k : Nat) : Nat → State
  | 0 => U.pushCell (arrV c4 n (fun _ => .null))
  | i + 1 => ((mnS U c4 c0 n k i).pushCell (arrV c0 k (fun _ => .int 0))).setCell U.heap.size ((arrV c4 n (fun t => va_rf (mnG U.heap.size i t))).setSlot i (.ref (U.heap.size + 1 + i)))
def mnF (f : Nat → va_E) (N n k : Nat) (c4 c0 : ClassId) (a i : Nat) : Nat → va_E := fun j => if j = N then aq c4 n (mnG a i) else if N < j ∧ j < N + 1 + i then ai c0 k z0 else f j
theorem mnG_next (c4 : ClassId) (n a i : Nat) : (arrV c4 n (fun t => va_rf (mnG a i t))).setSlot i (.ref (a + 1 + i)) = arrV c4 n (fun t => va_rf (mnG a (i + 1) t)) := by
  rw [arrV_store]
  congr 1
  funext t
  unfold updV mnG
  by_cases h : t = i
  · rw [if_pos h, h, if_pos (Nat.lt_succ_self i)]
    rfl
  · rw [if_neg h]
    show va_rf (if t < i then some (a + 1 + t) else none) = _
    by_cases h1 : t < i
    · rw [if_pos h1, if_pos (by omega)]
    · rw [if_neg h1, if_neg (by omega)]
theorem mn_null (c4 : ClassId) (n a : Nat) : arrV c4 n (fun _ => .null) = arrV c4 n (fun t => va_rf (mnG a 0 t)) := by
  congr 1
theorem mn_facts (U : State) (c4 c0 : ClassId) (n k : Nat) : ∀ i : Nat, (mnS U c4 c0 n k i).heap.size = U.heap.size + 1 + i ∧ (mnS U c4 c0 n k i).heap[U.heap.size]? = some (arrV c4 n (fun t => va_rf (mnG U.heap.size i t))) ∧ (mnS U c4 c0 n k i).vm = U.vm ∧ (mnS U c4 c0 n k i).slotsUsed = U.slotsUsed + n + i * k := by
  intro i
  induction i with
  | zero =>
    refine ⟨by simp [mnS], ?_, rfl, ?_⟩
    · rw [← mn_null]
      simp [mnS]
    · show U.slotsUsed + (arrV c4 n _).slots.size = _
      rw [arrV_size]
      omega
  | succ i ih =>
    obtain ⟨a1, a2, a3, a4⟩ := ih
    have hlt : U.heap.size < (mnS U c4 c0 n k i).heap.size := by omega
    refine ⟨?_, ?_, a3, ?_⟩
    · simp [mnS, State.setCell, a1]
      omega
    · rw [← mnG_next]
      exact State.heap_setCell_self (c := arrV c4 n (fun t => va_rf (mnG U.heap.size i t))) (by rw [State.heap_pushCell_of_lt (h := hlt)]; exact a2)
    · show (mnS U c4 c0 n k i).slotsUsed + (arrV c0 k _).slots.size = _
      rw [arrV_size, a4, Nat.succ_mul]
      omega
theorem mn_top (U : State) (g : JFrame) (c4 c0 : ClassId) (n k : Nat) : ∀ i : Nat, mnS (U.setTop g) c4 c0 n k i = (mnS U c4 c0 n k i).setTop g := by
  intro i
  induction i with
  | zero => rfl
  | succ i ih => simp only [mnS, ih, State.heap_setTop, State.pushCell_setTop, State.setCell_setTop]
/-- the outer array is full -/
def mnQ (f : Nat → va_E) (N n k : Nat) (c4 c0 : ClassId) (ad : Nat → Nat) : Nat → va_E := fun j => if j = N then aq c4 n (fun t => some (ad (N + 1 + t))) else if N < j ∧ j < N + 1 + n then ai c0 k z0 else f j
theorem mnQ_lo (f : Nat → va_E) (n k : Nat) {N : Nat} {c4 c0 : ClassId} {ad : Nat → Nat} {y : Nat} (h : y < N) : mnQ f N n k c4 c0 ad y = f y := (if_neg (by omega)).trans (if_neg (by omega))
theorem mnQ_hi (f : Nat → va_E) (n k : Nat) {N : Nat} {c4 c0 : ClassId} {ad : Nat → Nat} {y : Nat} (h : N < y) (h1 : y < N + 1 + n) : mnQ f N n k c4 c0 ad y = ai c0 k z0 := (if_neg (by omega)).trans (if_pos ⟨h, h1⟩)
theorem mnQ_at (f : Nat → va_E) (n k : Nat) {N : Nat} {c4 c0 : ClassId} {ad : Nat → Nat} : mnQ f N n k c4 c0 ad N = aq c4 n (fun t => some (ad (N + 1 + t))) := if_pos rfl
theorem mnF_Q {D : va_G} {cl : List vw_C} {N M : Nat} {ad : Nat → Nat} {B : Nat} {H0 : Heap} {f : Nat → va_E} {H : Heap} {locs : List Loc} {n k : Nat} {c4 c0 : ClassId} (had : ∀ j, ad j = B + j) (h : xw D cl M ad B H0 (mnF f N n k c4 c0 (ad N) n) H locs) : xw D cl M ad B H0 (mnQ f N n k c4 c0 ad) H locs := by
  refine ⟨fun i q hq => ?_, h.2⟩
  obtain ⟨hi, rfl⟩ := wd_of hq
  have a1 := h.1 i _ (wd_get hi)
  by_cases e : i = N
  · have e1 : mnF f N n k c4 c0 (ad N) n i = aq c4 n (mnG (ad N) n) := if_pos e
    have e2 : mnQ f N n k c4 c0 ad i = aq c4 n (fun t => some (ad (N + 1 + t))) := if_pos e
    rw [e1] at a1
    rw [e2]
    have a2 : H[ad i]? = some (vp_cell c4 (n, .inr (.inr (.inr (.inr (mnG (ad N) n)))))) := a1
    show H[ad i]? = some (vp_cell c4 (n, .inr (.inr (.inr (.inr (fun t => some (ad (N + 1 + t))))))))
    rw [a2, vp_cell_q, vp_cell_q]
    refine congrArg some (arrV_ext (fun j hj => ?_))
    show va_rf (if j < n then some (ad N + 1 + j) else none) = va_rf (some (ad (N + 1 + j)))
    rw [if_pos hj, had N, had (N + 1 + j), show B + N + 1 + j = B + (N + 1 + j) by omega]
  · have e1 : mnF f N n k c4 c0 (ad N) n i = mnQ f N n k c4 c0 ad i := by
      unfold mnF mnQ
      rw [if_neg e, if_neg e]
    rw [e1] at a1
    exact a1
section MNA
variable {E : CtlPost} {e : Env} {d : Bool} {acts : List Action} {U : State}
theorem mn_arr {c comp : ClassId} {kc : Class} {ty : FieldType} {n : Nat} {v : Value} {Q : Addr → Pre} (h1 : U.vm.classes[c]? = some kc) (h2 : kc.kind = .array comp ty) (h3 : ¬ n > e.platform.arrayLengthLimit) (h4 : ¬ n * componentBytes ty > e.platform.maxHeapBytes) (h5 : fits ty v = true) (h6 : v.isDefault = true) (h7 : U.heap.size < e.platform.maxCells) (h8 : U.slotsUsed + n ≤ e.platform.maxSlots) (hq : Q U.heap.size d acts (U.pushCell (arrV c n (fun _ => v)))) : wp (Jvm.newArray c n v) Q E e d acts U := by
  have hA : allocActs (Array.replicate n v) U.heap.size acts = acts := by
    unfold allocActs
    rw [if_pos (by rw [Array.all_replicate]; split <;> simp [h6])]
  have hF : ∀ (i : Nat) (w : Value), (Array.replicate n v)[i]? = some w → U.fitsSlot c .none i w = true := by
    intro i w hw
    rw [Array.getElem?_replicate] at hw
    split at hw
    · cases hw
      simp [State.fitsSlot, State.slotType?, h1, h2, h5]
    · cases hw
  rw [← arrV_new] at hq
  simp only [Jvm.newArray, Jvm.arrayFits, wp_bind', W.ask, W.ite, h3, if_false, wp_pure', W.theClass, h1, h2, h4, W.alloc, W.stop, Option.some.injEq, exists_eq_left', Array.size_replicate, hA]
  rw [if_neg (by omega)]
  exact ⟨h7, h8, hF, hq⟩
theorem mn_make {c4 c0 cx : ClassId} {k4 k0 : Class} {n k : Int32} {n' k' : Nat} (a1 : U.vm.classes[c4]? = some k4) (a2 : k4.kind = .array c0 (.array .int)) (b1 : U.vm.classes[c0]? = some k0) (b2 : k0.kind = .array cx .int) (hn : ¬ n < 0) (hk : ¬ k < 0) (en : n.toNatClampNeg = n') (ek : k.toNatClampNeg = k') (l1 : ¬ n' > e.platform.arrayLengthLimit) (l2 : ¬ n' * componentBytes (.array .int) > e.platform.maxHeapBytes) (l3 : ¬ k' > e.platform.arrayLengthLimit) (l4 : ¬ k' * componentBytes .int > e.platform.maxHeapBytes) (r1 : U.heap.size + 1 + n' ≤ e.platform.maxCells) (r2 : U.slotsUsed + n' + n' * k' ≤ e.platform.maxSlots) {Q : Addr → Pre} (hq : ∀ (d' : Bool) (acts' : List Action), Q U.heap.size d' acts' (mnS U c4 c0 n' k' n')) : wp (multianewarray.make c4 [n, k]) Q E e d acts U := by
  subst en
  subst ek
  have hnone : ([k].find? (· < 0)) = none := by simp [hk]
  rw [multianewarray.make]
  simp only [wp_bind', W.ite, hn, if_false, wp_pure', W.theClass, a1, a2, Option.some.injEq, exists_eq_left']
  refine mn_arr a1 a2 l1 l2 rfl rfl (by omega) (by have := Nat.zero_le (n.toNatClampNeg * k.toNatClampNeg); omega) ?_
  simp only [hnone]
  rw [ite_self, wp_bind', Std.Legacy.Range.forIn_eq_forIn_range', show ([:n.toNatClampNeg] : Std.Legacy.Range).size = n.toNatClampNeg by simp [Std.Legacy.Range.size]]
  refine wp_forIn_inv (fun todo V => ∃ i, i ≤ n.toNatClampNeg ∧ todo = List.range' i (n.toNatClampNeg - i) ∧ V = mnS U c4 c0 n.toNatClampNeg k.toNatClampNeg i) _ _ ⟨0, Nat.zero_le _, rfl, rfl⟩ ?_ ?_
  · rintro x todo V d' acts' Q' ⟨i, hi, hl, rfl⟩ next
    have hlt : i < n.toNatClampNeg := by
      apply Nat.lt_of_le_of_ne hi
      intro h
      rw [h, Nat.sub_self] at hl
      cases hl
    rw [show n.toNatClampNeg - i = (n.toNatClampNeg - (i + 1)) + 1 by omega, List.range'_succ] at hl
    obtain ⟨rfl, hr⟩ := List.cons.inj hl
    obtain ⟨f1, f2, f3, f4⟩ := mn_facts U c4 c0 n.toNatClampNeg k.toNatClampNeg x
    have hmul : x * k.toNatClampNeg + k.toNatClampNeg ≤ n.toNatClampNeg * k.toNatClampNeg := by
      rw [← Nat.succ_mul]
      exact Nat.mul_le_mul_right _ hlt
    simp only [wp_bind']
    rw [multianewarray.make]
    simp only [wp_bind', W.ite, hk, if_false, wp_pure', W.theClass, f3, b1, b2, Option.some.injEq, exists_eq_left']
    refine mn_arr (by rw [f3]; exact b1) b2 l3 l4 rfl rfl (by rw [f1]; omega) (by rw [f4]; omega) ?_
    simp only [wp_bind', W.writeLoc, wp_pure']
    have hlt0 : U.heap.size < (mnS U c4 c0 n.toNatClampNeg k.toNatClampNeg x).heap.size := by rw [f1]; omega
    refine ⟨_, (State.heap_pushCell_of_lt _ _ hlt0).trans f2, (fun h => by cases h), by rw [arrV_size]; exact hlt, ?_, next _ _ _ ⟨x + 1, hlt, hr, ?_⟩⟩
    · show State.fitsSlot _ c4 .none _ _ = true
      simp [State.fitsSlot, State.slotType?, f3, a1, a2, fits]
    · rw [f1]
      rfl
  · rintro V d' acts' ⟨i, hi, hl, rfl⟩
    have hiN : i = n.toNatClampNeg := by
      apply Nat.le_antisymm hi
      apply Nat.le_of_not_lt
      intro h
      rw [show n.toNatClampNeg - i = (n.toNatClampNeg - (i + 1)) + 1 by omega, List.range'_succ] at hl
      cases hl
    subst hiN
    simp only [wp_pure']
    exact hq _ _
end MNA
section MNB
variable {p : Program} {l : Launch} {e : Env} {R : Room} {s : State} {m : MethodId} {args : Array Value} {below : List Frame} {meth : Method} {c : Code} {H : Heap} {locs : List Loc} {cells slots : Nat} {Q : State → Prop}
variable {cc : ByteArray} {pc : Nat} {ls : Array Slot} {rest : List Value} {D : va_G} {cl : List vw_C} {tys : List (ClassId × FieldType)} {N : Nat} {ad : Nat → Nat} {B : Nat} {f : Nat → va_E}
theorem mn_world {U : State} (X : Stand p l e R s m args below meth c U locs cells slots) (hw : xw D cl N ad B s.heap f U.heap locs) (had : ∀ j, ad j = B + j) (hz : U.heap.size = B + N) (c4 c0 : ClassId) (n k : Nat) : ∀ i : Nat, i ≤ n → ∃ locs1 : List Loc, Stand p l e R s m args below meth c (mnS U c4 c0 n k i) locs1 (cells + 1 + i) (slots + n + i * k) ∧ xw D cl (N + 1 + i) ad B s.heap (mnF f N n k c4 c0 (ad N) i) (mnS U c4 c0 n k i).heap locs1 := by
  intro i
  have eN : ad N = U.heap.size := by rw [had, hz]
  induction i with
  | zero =>
    intro _
    refine ⟨locs, ?_, ?_⟩
    · have h := X.pushed (arrV c4 n (fun _ => .null))
      rw [arrV_size] at h
      simpa [mnS] using h
    · have h : xw D cl (N + 1) ad B s.heap (va_up f N (aq c4 n (mnG (ad N) 0))) (mnS U c4 c0 n k 0).heap locs := by
        refine xw_push hw eN ?_ (fun q hq => State.heap_pushCell_of_lt _ _ hq) (by simp [mnS])
        rw [vp_cell_q, ← mn_null]
        simp [mnS]
      refine h.ext (fun j hj => ?_)
      unfold mnF
      by_cases e1 : j = N
      · rw [if_pos e1, e1, va_up_self]
      · rw [if_neg e1, if_neg (by omega), va_up_ne _ _ e1]
  | succ i ih =>
    intro hi
    obtain ⟨locs1, X1, w1⟩ := ih (by omega)
    obtain ⟨f1, f2, f3, f4⟩ := mn_facts U c4 c0 n k i
    have hlt : U.heap.size < (mnS U c4 c0 n k i).heap.size := by omega
    have hcell : ((mnS U c4 c0 n k i).pushCell (arrV c0 k (fun _ => .int 0))).heap[U.heap.size]? = some (arrV c4 n (fun t => va_rf (mnG U.heap.size i t))) := by
      rw [State.heap_pushCell_of_lt (h := hlt)]
      exact f2
    refine ⟨locs1 ++ [⟨ad N, i⟩], ?_, ?_⟩
    · have h := (X1.pushed (arrV c0 k (fun _ => .int 0))).stored hcell i (.ref (U.heap.size + 1 + i))
      rw [arrV_size] at h
      rw [eN, Nat.succ_mul, ← Nat.add_assoc (slots + n)]
      exact h
    · have w2 : xw D cl (N + 1 + i + 1) ad B s.heap (va_up (mnF f N n k c4 c0 (ad N) i) (N + 1 + i) (ai c0 k z0)) ((mnS U c4 c0 n k i).pushCell (arrV c0 k (fun _ => .int 0))).heap locs1 := by
        refine xw_push w1 (by rw [had, f1]; omega) ?_ (fun q hq => State.heap_pushCell_of_lt _ _ hq) (by simp)
        rw [vp_cell_i]
        exact State.heap_pushCell_size _ _
      have w3 : xw D cl (N + 1 + i + 1) ad B s.heap (va_up (va_up (mnF f N n k c4 c0 (ad N) i) (N + 1 + i) (ai c0 k z0)) N (aq c4 n (mnG (ad N) (i + 1)))) (mnS U c4 c0 n k (i + 1)).heap (locs1 ++ [⟨ad N, i⟩]) := by
        refine xw_store w2 (xD_of had _) (by omega) ?_ (fun a ha => ?_) (by simp [mnS, State.setCell]) i
        · rw [vp_cell_q, eN, ← mnG_next]
          exact State.heap_setCell_self hcell
        · exact State.heap_setCell_other (by rw [eN] at ha; exact fun h => ha h.symm)
      refine w3.ext (fun j hj => ?_)
      unfold mnF
      by_cases e1 : j = N
      · rw [if_pos e1, e1, va_up_self]
      · rw [if_neg e1, va_up_ne _ _ e1]
        by_cases e2 : j = N + 1 + i
        · rw [e2, va_up_self, if_pos ⟨by omega, by omega⟩]
        · rw [va_up_ne _ _ e2, if_neg e1]
          by_cases e3 : N < j ∧ j < N + 1 + i
          · rw [if_pos e3, if_pos ⟨e3.1, by omega⟩]
          · rw [if_neg e3, if_neg (by omega)]
theorem x_mna {ca : Nat → ClassId} (hx : p.tables.exec = Jvm.exec) (hb : c.code = cc) {own : String} {index : Nat} (hown : s.vm.findClass own = some m.cls) (hcl : (Cond.classLink own index "[[I").before args s = true) (hK : va_K D vwCl (xT ca) s) (hO : xO ca s) (had : ∀ j, ad j = B + j) (hs : s.heap.size + cells ≤ B + N) (hN : 0 < N) (hw : xw D vwCl N ad B s.heap f H locs) {n k : Int32} {n' k' : Nat} (hn : ¬ n < 0) (hk : ¬ k < 0) (en : n.toNatClampNeg = n') (ek : k.toNatClampNeg = k') (hb1 : n' * 4 ≤ 536870912) (hb2 : k' * 4 ≤ 536870912) (hcells : cells + (1 + n') ≤ R.cells) (hslots : slots + (n' + n' * k') ≤ R.slots) (hdg : decode cc pc = .ok (.multianewarray index 2, 4))
    (kk : ∀ (H1 : Heap) (locs1 : List Loc), xw D vwCl (N + 1 + n') ad B s.heap (mnQ f N n' k' (ca 4) (ca 0) ad) H1 locs1 → W p l e R s m args below meth c H1 locs1 (cells + 1 + n') (slots + n' + n' * k') Q (F0 m (pc + 4) ls (.ref (ad N) :: rest))) : W p l e R s m args below meth c H locs cells slots Q (F0 m pc ls (.int k :: .int n :: rest)) := by
  intro T hT X
  have hpl : e.platform.magicAccessors = ({} : Platform).magicAccessors := by rw [X.admits.platform]
  obtain ⟨k4, hk4, hd4⟩ := hO.2
  obtain ⟨-, k0, hk0, cx, hd0⟩ := (hK.2 0 (ca 0, .int) rfl).1 0 (fun _ => .null)
  have hnm : s.vm.findClass "[[I" = some (ca 4) := (hK.2 4 (ca 4, .array .int) rfl).2
  obtain ⟨c', hf', hcl'⟩ := Cond.classLink_spec hown hcl e.platform hpl
  cases hnm.symm.trans hf'
  obtain ⟨g1, hwarm, -⟩ := State.classEntry (e := e) X.warmed hcl'
  generalize T.vm.noted m.cls index (.cls (ca 4)) = vm1 at g1 hwarm
  obtain ⟨k4', hk4', he4⟩ := hwarm.alike.2.2 _ _ hk4
  obtain ⟨k0', hk0', he0⟩ := hwarm.alike.2.2 _ _ hk0
  have X1 := X.noted hwarm
  have hw1 : xw D vwCl N ad B s.heap f (T.setVm vm1).heap locs := by
    show xw D vwCl N ad B s.heap f T.heap locs
    rw [hT]
    exact hw
  have hz : (T.setVm vm1).heap.size = B + N := by
    show T.heap.size = B + N
    have a1 := X.heapSize
    have a2 : ad (N - 1) < T.heap.size := by
      rw [hT]
      exact (hw.1 (N - 1) _ (wd_get (by omega))).lt
    rw [had] at a2
    omega
  obtain ⟨locs1, X2, w2⟩ := mn_world X1 hw1 had hz (ca 4) (ca 0) n' k' n' (Nat.le_refl _)
  obtain ⟨t, a, b⟩ := kk _ locs1 (mnF_Q had w2) _ rfl X2
  refine ⟨t, ?_, b⟩
  obtain ⟨r1, r2⟩ := X.roomAbove hcells hslots
  have lim : ∀ j : Nat, j * 4 ≤ 536870912 → (¬ j > e.platform.arrayLengthLimit) ∧ ¬ j * 4 > e.platform.maxHeapBytes := by
    intro j hj
    rw [Launch.admits_arrayLengthLimit X.admits, Launch.admits_maxHeapBytes X.admits]
    omega
  jvm_step X.here [hx, hb, hdg]
  simp only [multianewarray.sem, wp_bind', W.resolveClassAt_links (State.method?_setTop (F0 m pc ls (.int k :: .int n :: rest)) X.here.top) g1]
  rw [W.popN, if_neg (by decide)]
  refine ⟨_, State.topJava?_setTop' (s := T.setVm vm1) _ X.here.top, [.int n, .int k], rest, rfl, rfl, ?_⟩
  simp only [List.mapM_cons, List.mapM_nil, wp_bind', wp_pure']
  refine mn_make (k4 := k4') (k0 := k0') (c0 := ca 0) (cx := cx) (n' := n') (k' := k') hk4' (by rw [he4]; exact hd4) hk0' (by rw [he0]; exact hd0) hn hk en ek (lim n' hb1).1 (lim n' hb1).2 (lim k' hb2).1 (lim k' hb2).2 (by show T.heap.size + 1 + n' ≤ _; omega) (by show T.slotsUsed + n' + n' * k' ≤ _; omega) (fun d' acts' => ?_)
  have eS : ((T.setTop (F0 m pc ls (.int k :: .int n :: rest))).setVm vm1).setTop (F0 m pc ls rest) = (T.setVm vm1).setTop (F0 m pc ls rest) := by
    show ((T.setVm vm1).setTop _).setTop _ = _
    rw [State.setTop_setTop]
  have eS' : ∀ V : State, V = ((T.setTop (F0 m pc ls (.int k :: .int n :: rest))).setVm vm1).setTop (F0 m pc ls rest) → V = (T.setVm vm1).setTop (F0 m pc ls rest) := fun V h => h.trans eS
  have e0 : ad N = T.heap.size := by rw [had]; exact hz.symm
  rw [e0] at a
  rw [eS' _ rfl, mn_top]
  simp only [wp_bind', W.mark, W.pushRef, State.topJava?_setTop' _ X2.here.top, Option.some.injEq, exists_eq_left', State.setTop_setTop, State.heap_setTop]
  intro acts
  simp [jvm, X2.here.top]
  exact a
end MNB
