section AR1
def mzS (s : State) (cs : List Cell) : State := { s with heap := s.heap ++ cs.toArray, slotsUsed := s.slotsUsed + (cs.map (fun c => c.slots.size)).sum }
theorem mzS_nil {s : State} : mzS s [] = s := by
  simp [mzS]
theorem mzS_push {s : State} {cs : List Cell} {c : Cell} : (mzS s cs).pushCell c = mzS s (cs ++ [c]) := by
  simp [mzS, State.pushCell, Nat.add_assoc]
theorem mzS_size {s : State} {cs : List Cell} : (mzS s cs).heap.size = s.heap.size + cs.length := by
  simp [mzS]
theorem mzS_used {s : State} {cs : List Cell} : (mzS s cs).slotsUsed = s.slotsUsed + (cs.map (fun c => c.slots.size)).sum := rfl
theorem mzS_vm {s : State} {cs : List Cell} : (mzS s cs).vm = s.vm := rfl
theorem mzS_get {s : State} {cs : List Cell} {j : Nat} : (mzS s cs).heap[s.heap.size + j]? = cs[j]? := by
  show (s.heap ++ cs.toArray)[s.heap.size + j]? = _
  rw [Array.getElem?_append_right (by omega)]
  simp
theorem mzS_old {s : State} {cs : List Cell} {q : Nat} (h : q < s.heap.size) : (mzS s cs).heap[q]? = s.heap[q]? := by
  show (s.heap ++ cs.toArray)[q]? = _
  exact Array.getElem?_append_left h
theorem mzS_set {s : State} {cs : List Cell} {j : Nat} {c c0 : Cell} (h : cs[j]? = some c0) (hs : c.slots.size = c0.slots.size) : (mzS s cs).setCell (s.heap.size + j) c = mzS s (cs.set j c) := by
  have e1 : (s.heap ++ cs.toArray).setIfInBounds (s.heap.size + j) c = s.heap ++ (cs.set j c).toArray := by
    apply Array.ext'
    simp [List.set_append]
  have e2 : ((cs.set j c).map (fun c => c.slots.size)).sum = (cs.map (fun c => c.slots.size)).sum := by
    rw [List.map_set]
    congr 1
    have h1 : (cs.map (fun c => c.slots.size))[j]? = some c.slots.size := by rw [List.getElem?_map, h, hs]; rfl
    apply List.ext_getElem?
    intro i
    rw [List.getElem?_set]
    split
    · rename_i e
      subst e
      rw [h1]
      split
      · rfl
      · rename_i q
        exact absurd (List.getElem?_eq_some_iff.mp h1).1 q
    · rfl
  unfold State.setCell mzS
  rw [e2]
  dsimp only
  rw [e1]
theorem mzS_top {s : State} {cs : List Cell} {f : JFrame} : mzS (s.setTop f) cs = (mzS s cs).setTop f := rfl
variable {E : CtlPost} {e : Env} {d : Bool} {acts : List Action} {s : State}
theorem mz_up {f : Nat → Value} {g : Nat → Option Nat} {i b : Nat} (h : f = fun j => va_rf (g j)) : updV f i (.ref b) = fun j => va_rf (va_up g i (some b) j) := by
  subst h
  funext j
  unfold updV va_up
  by_cases e : j = i
  · rw [if_pos e, if_pos e]; rfl
  · rw [if_neg e, if_neg e]
def mzF (b : Nat) : Nat → Value := updV (updV (fun _ => .null) 0 (.ref b)) 1 (.ref (b + 1))
def mzG (b : Nat) : Nat → Option Nat := va_up (va_up (fun _ => none) 0 (some b)) 1 (some (b + 1))
theorem mzF_eq {b : Nat} : mzF b = fun j => va_rf (mzG b j) := mz_up (mz_up rfl)
theorem mz1_1 {c cc : ClassId} {k : Class} {cs : List Cell} (hk : s.vm.classes[c]? = some k) (hkind : k.kind = .array cc .int) (hl : ¬ 1 > e.platform.arrayLengthLimit) (hh : ¬ 1 * componentBytes .int > e.platform.maxHeapBytes)
    (h1 : (mzS s cs).heap.size < e.platform.maxCells) (h2 : (mzS s cs).slotsUsed + 1 ≤ e.platform.maxSlots) {Q : Addr → Pre} (hq : ∀ acts', Q (s.heap.size + cs.length) d acts' (mzS s (cs ++ [arrV c 1 (fun _ => .int 0)]))) :
    wp (Op.multianewarray.make c [1]) Q E e d acts (mzS s cs) := by
  rw [Op.multianewarray.make]
  simp only [wp_bind', W.ite, show ¬ ((1 : Int32) < 0) by decide, if_false, wp_pure', W.theClass, mzS_vm, hk, hkind, Option.some.injEq, exists_eq_left']
  refine W.newArray_of (by rw [mzS_vm]; exact hk) hkind hl hh h1 h2 rfl (fun acts' => ?_)
  have e1 := arrV_new c 1 (.int 0)
  rw [mzS_size]
  have := hq acts'
  rw [← mzS_push, ← e1] at this
  exact this
theorem mzW_1 {c2 c1 cc : ClassId} {k2 k1 : Class} {cs zs : List Cell} {f : Nat → Value} {i n : Nat} {ty : FieldType} (hk2 : s.vm.classes[c2]? = some k2) (hkind2 : k2.kind = .array c1 ty) (hty : ty.isReference = true) (hk1 : s.vm.classes[c1]? = some k1) (hkind1 : k1.kind = .array cc .int)
    (hl : ¬ 1 > e.platform.arrayLengthLimit) (hh : ¬ 1 * 8 > e.platform.maxHeapBytes) (hz : zs.length = i) (hi : i < n)
    (h1 : s.heap.size + cs.length + 1 + i < e.platform.maxCells) (h2 : (mzS s (cs ++ arrV c2 n f :: zs)).slotsUsed + 1 ≤ e.platform.maxSlots) {Q : Unit → Pre}
    (hq : ∀ d' acts', Q () d' acts' (mzS s (cs ++ arrV c2 n (updV f i (.ref (s.heap.size + cs.length + 1 + i))) :: (zs ++ [arrV c1 1 (fun _ => .int 0)])))) :
    wp (Op.multianewarray.make c1 [1]) (fun a => wp (writeLoc (s.heap.size + cs.length) i (.ref a)) Q E e) E e d acts (mzS s (cs ++ arrV c2 n f :: zs)) := by
  refine mz1_1 hk1 hkind1 hl (fun q => hh (Nat.lt_of_lt_of_le q (by decide))) (by rw [mzS_size]; simp [hz]; omega) h2 (fun acts' => ?_)
  have e1 : s.heap.size + (cs ++ arrV c2 n f :: zs).length = s.heap.size + cs.length + 1 + i := by simp [hz]; omega
  rw [e1]
  refine (W.writeLoc _ _ _ _).mpr ?_
  have e2 : (cs ++ arrV c2 n f :: zs) ++ [arrV c1 1 (fun _ => .int 0)] = cs ++ arrV c2 n f :: (zs ++ [arrV c1 1 (fun _ => .int 0)]) := by simp
  rw [e2]
  have e3 : (cs ++ arrV c2 n f :: (zs ++ [arrV c1 1 (fun _ => .int 0)]))[cs.length]? = some (arrV c2 n f) := by simp
  refine ⟨arrV c2 n f, mzS_get.trans e3, (fun q => by cases q), by rw [arrV_size]; exact hi, ?_, ?_⟩
  · show State.fitsSlot _ c2 .none i _ = true
    have hf : ∀ a, fits ty (.ref a) = true := by
      intro a
      cases ty <;> first | (cases hty; done) | rfl
    simp [State.fitsSlot, State.slotType?, mzS_vm, hk2, hkind2, hf]
  · rw [arrV_store, mzS_set e3 (by rw [arrV_size, arrV_size])]
    have e4 : (cs ++ arrV c2 n f :: (zs ++ [arrV c1 1 (fun _ => .int 0)])).set cs.length (arrV c2 n (updV f i (.ref (s.heap.size + cs.length + 1 + i)))) = cs ++ arrV c2 n (updV f i (.ref (s.heap.size + cs.length + 1 + i))) :: (zs ++ [arrV c1 1 (fun _ => .int 0)]) := by simp
    rw [e4]
    exact hq _ _
theorem mzW1_1 {c2 c1 cc : ClassId} {k2 k1 : Class} {cs zs : List Cell} {f : Nat → Value} {i n : Nat} {ty : FieldType} (hk2 : s.vm.classes[c2]? = some k2) (hkind2 : k2.kind = .array c1 ty) (hty : ty.isReference = true) (hk1 : s.vm.classes[c1]? = some k1) (hkind1 : k1.kind = .array cc .int)
    (hl : ¬ 1 > e.platform.arrayLengthLimit) (hh : ¬ 1 * 8 > e.platform.maxHeapBytes) (hz : zs.length = i) (hi : i < n)
    (h1 : s.heap.size + cs.length + 1 + i < e.platform.maxCells) (h2 : (mzS s (cs ++ arrV c2 n f :: zs)).slotsUsed + 1 ≤ e.platform.maxSlots) {Q : ForInStep PUnit → Pre}
    (hq : ∀ d' acts', Q (ForInStep.yield PUnit.unit) d' acts' (mzS s (cs ++ arrV c2 n (updV f i (.ref (s.heap.size + cs.length + 1 + i))) :: (zs ++ [arrV c1 1 (fun _ => .int 0)])))) :
    wp (do
      let x ← Op.multianewarray.make c1 [1]
      writeLoc (s.heap.size + cs.length) i (.ref x)
      Pure.pure (ForInStep.yield PUnit.unit)) Q E e d acts (mzS s (cs ++ arrV c2 n f :: zs)) := by
  rw [wp_bind']
  have k := mzW_1 (e := e) (d := d) (acts := acts) (E := E) (Q := fun _ => Q (ForInStep.yield PUnit.unit)) hk2 hkind2 hty hk1 hkind1 hl hh hz hi h1 h2 hq
  have hf : (fun a => wp (do
      writeLoc (s.heap.size + cs.length) i (.ref a)
      Pure.pure (ForInStep.yield PUnit.unit)) Q E e) = (fun a => wp (writeLoc (s.heap.size + cs.length) i (.ref a)) (fun _ => Q (ForInStep.yield PUnit.unit)) E e) := by
    funext a d acts s
    rw [wp_bind']
    congr 1
  rw [hf]
  exact k
def mzL_1 (c2 c1 b : Nat) : List Cell := [arrV c2 2 (mzF (b + 1)), arrV c1 1 (fun _ => .int 0), arrV c1 1 (fun _ => .int 0)]
theorem mz2_1 {c2 c1 cc : ClassId} {k2 k1 : Class} {cs : List Cell} (hk2 : s.vm.classes[c2]? = some k2) (hkind2 : k2.kind = .array c1 (.array .int)) (hk1 : s.vm.classes[c1]? = some k1) (hkind1 : k1.kind = .array cc .int)
    (hl : ¬ 2 > e.platform.arrayLengthLimit) (hh : ¬ 2 * 8 > e.platform.maxHeapBytes)
    (h1 : s.heap.size + cs.length + 3 ≤ e.platform.maxCells) (h2 : (mzS s cs).slotsUsed + 4 ≤ e.platform.maxSlots) {Q : Addr → Pre} (hq : ∀ d' acts', Q (s.heap.size + cs.length) d' acts' (mzS s (cs ++ mzL_1 c2 c1 (s.heap.size + cs.length)))) :
    wp (Op.multianewarray.make c2 [2, 1]) Q E e d acts (mzS s cs) := by
  have hl1 : ¬ 1 > e.platform.arrayLengthLimit := fun q => hl (Nat.lt_of_lt_of_le q (by decide))
  have hh1 : ¬ 1 * 8 > e.platform.maxHeapBytes := fun q => hh (Nat.lt_of_lt_of_le q (by decide))
  rw [Op.multianewarray.make]
  simp only [wp_bind', W.ite, show ¬ ((2 : Int32) < 0) by decide, if_false, wp_pure', W.theClass, mzS_vm, hk2, hkind2, Option.some.injEq, exists_eq_left']
  refine W.newArray_of (by rw [mzS_vm]; exact hk2) hkind2 hl (fun q => hh (Nat.lt_of_lt_of_le q (by decide))) (by rw [mzS_size]; omega) (by rw [mzS_used] at h2 ⊢; show _ + 2 ≤ _; omega) rfl (fun acts' => ?_)
  simp only [show (List.find? (fun x => decide (x < 0)) [(1 : Int32)]) = none by decide]
  rw [ite_self, wp_bind', Std.Legacy.Range.forIn_eq_forIn_range']
  rw [show List.range' ([:Int32.toNatClampNeg 2] : Std.Legacy.Range).start ([:Int32.toNatClampNeg 2] : Std.Legacy.Range).size ([:Int32.toNatClampNeg 2] : Std.Legacy.Range).step = [0, 1] from rfl]
  rw [show ({ cls := c2, slots := Array.replicate (Int32.toNatClampNeg 2) Value.null } : Cell) = arrV c2 2 (fun _ => .null) from arrV_new c2 2 .null, mzS_push]
  rw [mzS_size]
  have hu : ∀ (f : Nat → Value) (n : Nat), n ≤ 1 → (mzS s (cs ++ arrV c2 2 f :: List.replicate n (arrV c1 1 (fun _ => .int 0)))).slotsUsed + 1 ≤ e.platform.maxSlots := by
    intro f n hn
    rw [mzS_used] at h2 ⊢
    simp [arrV_size]
    omega
  rw [List.forIn_cons, wp_bind']
  refine mzW1_1 (i := 0) (zs := []) hk2 hkind2 rfl hk1 hkind1 hl1 hh1 rfl (by decide) (by omega) (hu _ 0 (by decide)) (fun d1 a1 => ?_)
  dsimp only
  rw [List.forIn_cons, wp_bind']
  refine mzW1_1 (i := 1) (zs := [arrV c1 1 (fun _ => .int 0)]) hk2 hkind2 rfl hk1 hkind1 hl1 hh1 rfl (by decide) (by omega) (hu _ 1 (by decide)) (fun d2 a2 => ?_)
  dsimp only
  rw [List.forIn_nil, wp_pure', wp_pure']
  exact hq _ _
theorem mz1_2 {c cc : ClassId} {k : Class} {cs : List Cell} (hk : s.vm.classes[c]? = some k) (hkind : k.kind = .array cc .int) (hl : ¬ 2 > e.platform.arrayLengthLimit) (hh : ¬ 2 * componentBytes .int > e.platform.maxHeapBytes)
    (h1 : (mzS s cs).heap.size < e.platform.maxCells) (h2 : (mzS s cs).slotsUsed + 2 ≤ e.platform.maxSlots) {Q : Addr → Pre} (hq : ∀ acts', Q (s.heap.size + cs.length) d acts' (mzS s (cs ++ [arrV c 2 (fun _ => .int 0)]))) :
    wp (Op.multianewarray.make c [2]) Q E e d acts (mzS s cs) := by
  rw [Op.multianewarray.make]
  simp only [wp_bind', W.ite, show ¬ ((2 : Int32) < 0) by decide, if_false, wp_pure', W.theClass, mzS_vm, hk, hkind, Option.some.injEq, exists_eq_left']
  refine W.newArray_of (by rw [mzS_vm]; exact hk) hkind hl hh h1 h2 rfl (fun acts' => ?_)
  have e1 := arrV_new c 2 (.int 0)
  rw [mzS_size]
  have := hq acts'
  rw [← mzS_push, ← e1] at this
  exact this
theorem mzW_2 {c2 c1 cc : ClassId} {k2 k1 : Class} {cs zs : List Cell} {f : Nat → Value} {i n : Nat} {ty : FieldType} (hk2 : s.vm.classes[c2]? = some k2) (hkind2 : k2.kind = .array c1 ty) (hty : ty.isReference = true) (hk1 : s.vm.classes[c1]? = some k1) (hkind1 : k1.kind = .array cc .int)
    (hl : ¬ 2 > e.platform.arrayLengthLimit) (hh : ¬ 2 * 8 > e.platform.maxHeapBytes) (hz : zs.length = i) (hi : i < n)
    (h1 : s.heap.size + cs.length + 1 + i < e.platform.maxCells) (h2 : (mzS s (cs ++ arrV c2 n f :: zs)).slotsUsed + 2 ≤ e.platform.maxSlots) {Q : Unit → Pre}
    (hq : ∀ d' acts', Q () d' acts' (mzS s (cs ++ arrV c2 n (updV f i (.ref (s.heap.size + cs.length + 1 + i))) :: (zs ++ [arrV c1 2 (fun _ => .int 0)])))) :
    wp (Op.multianewarray.make c1 [2]) (fun a => wp (writeLoc (s.heap.size + cs.length) i (.ref a)) Q E e) E e d acts (mzS s (cs ++ arrV c2 n f :: zs)) := by
  refine mz1_2 hk1 hkind1 hl (fun q => hh (Nat.lt_of_lt_of_le q (by decide))) (by rw [mzS_size]; simp [hz]; omega) h2 (fun acts' => ?_)
  have e1 : s.heap.size + (cs ++ arrV c2 n f :: zs).length = s.heap.size + cs.length + 1 + i := by simp [hz]; omega
  rw [e1]
  refine (W.writeLoc _ _ _ _).mpr ?_
  have e2 : (cs ++ arrV c2 n f :: zs) ++ [arrV c1 2 (fun _ => .int 0)] = cs ++ arrV c2 n f :: (zs ++ [arrV c1 2 (fun _ => .int 0)]) := by simp
  rw [e2]
  have e3 : (cs ++ arrV c2 n f :: (zs ++ [arrV c1 2 (fun _ => .int 0)]))[cs.length]? = some (arrV c2 n f) := by simp
  refine ⟨arrV c2 n f, mzS_get.trans e3, (fun q => by cases q), by rw [arrV_size]; exact hi, ?_, ?_⟩
  · show State.fitsSlot _ c2 .none i _ = true
    have hf : ∀ a, fits ty (.ref a) = true := by
      intro a
      cases ty <;> first | (cases hty; done) | rfl
    simp [State.fitsSlot, State.slotType?, mzS_vm, hk2, hkind2, hf]
  · rw [arrV_store, mzS_set e3 (by rw [arrV_size, arrV_size])]
    have e4 : (cs ++ arrV c2 n f :: (zs ++ [arrV c1 2 (fun _ => .int 0)])).set cs.length (arrV c2 n (updV f i (.ref (s.heap.size + cs.length + 1 + i)))) = cs ++ arrV c2 n (updV f i (.ref (s.heap.size + cs.length + 1 + i))) :: (zs ++ [arrV c1 2 (fun _ => .int 0)]) := by simp
    rw [e4]
    exact hq _ _
theorem mzW1_2 {c2 c1 cc : ClassId} {k2 k1 : Class} {cs zs : List Cell} {f : Nat → Value} {i n : Nat} {ty : FieldType} (hk2 : s.vm.classes[c2]? = some k2) (hkind2 : k2.kind = .array c1 ty) (hty : ty.isReference = true) (hk1 : s.vm.classes[c1]? = some k1) (hkind1 : k1.kind = .array cc .int)
    (hl : ¬ 2 > e.platform.arrayLengthLimit) (hh : ¬ 2 * 8 > e.platform.maxHeapBytes) (hz : zs.length = i) (hi : i < n)
    (h1 : s.heap.size + cs.length + 1 + i < e.platform.maxCells) (h2 : (mzS s (cs ++ arrV c2 n f :: zs)).slotsUsed + 2 ≤ e.platform.maxSlots) {Q : ForInStep PUnit → Pre}
    (hq : ∀ d' acts', Q (ForInStep.yield PUnit.unit) d' acts' (mzS s (cs ++ arrV c2 n (updV f i (.ref (s.heap.size + cs.length + 1 + i))) :: (zs ++ [arrV c1 2 (fun _ => .int 0)])))) :
    wp (do
      let x ← Op.multianewarray.make c1 [2]
      writeLoc (s.heap.size + cs.length) i (.ref x)
      Pure.pure (ForInStep.yield PUnit.unit)) Q E e d acts (mzS s (cs ++ arrV c2 n f :: zs)) := by
  rw [wp_bind']
  have k := mzW_2 (e := e) (d := d) (acts := acts) (E := E) (Q := fun _ => Q (ForInStep.yield PUnit.unit)) hk2 hkind2 hty hk1 hkind1 hl hh hz hi h1 h2 hq
  have hf : (fun a => wp (do
      writeLoc (s.heap.size + cs.length) i (.ref a)
      Pure.pure (ForInStep.yield PUnit.unit)) Q E e) = (fun a => wp (writeLoc (s.heap.size + cs.length) i (.ref a)) (fun _ => Q (ForInStep.yield PUnit.unit)) E e) := by
    funext a d acts s
    rw [wp_bind']
    congr 1
  rw [hf]
  exact k
def mzL_2 (c2 c1 b : Nat) : List Cell := [arrV c2 2 (mzF (b + 1)), arrV c1 2 (fun _ => .int 0), arrV c1 2 (fun _ => .int 0)]
theorem mz2_2 {c2 c1 cc : ClassId} {k2 k1 : Class} {cs : List Cell} (hk2 : s.vm.classes[c2]? = some k2) (hkind2 : k2.kind = .array c1 (.array .int)) (hk1 : s.vm.classes[c1]? = some k1) (hkind1 : k1.kind = .array cc .int)
    (hl : ¬ 2 > e.platform.arrayLengthLimit) (hh : ¬ 2 * 8 > e.platform.maxHeapBytes)
    (h1 : s.heap.size + cs.length + 3 ≤ e.platform.maxCells) (h2 : (mzS s cs).slotsUsed + 6 ≤ e.platform.maxSlots) {Q : Addr → Pre} (hq : ∀ d' acts', Q (s.heap.size + cs.length) d' acts' (mzS s (cs ++ mzL_2 c2 c1 (s.heap.size + cs.length)))) :
    wp (Op.multianewarray.make c2 [2, 2]) Q E e d acts (mzS s cs) := by
  have hl1 : ¬ 2 > e.platform.arrayLengthLimit := fun q => hl (Nat.lt_of_lt_of_le q (by decide))
  have hh1 : ¬ 2 * 8 > e.platform.maxHeapBytes := fun q => hh (Nat.lt_of_lt_of_le q (by decide))
  rw [Op.multianewarray.make]
  simp only [wp_bind', W.ite, show ¬ ((2 : Int32) < 0) by decide, if_false, wp_pure', W.theClass, mzS_vm, hk2, hkind2, Option.some.injEq, exists_eq_left']
  refine W.newArray_of (by rw [mzS_vm]; exact hk2) hkind2 hl (fun q => hh (Nat.lt_of_lt_of_le q (by decide))) (by rw [mzS_size]; omega) (by rw [mzS_used] at h2 ⊢; show _ + 2 ≤ _; omega) rfl (fun acts' => ?_)
  simp only [show (List.find? (fun x => decide (x < 0)) [(2 : Int32)]) = none by decide]
  rw [ite_self, wp_bind', Std.Legacy.Range.forIn_eq_forIn_range']
  rw [show List.range' ([:Int32.toNatClampNeg 2] : Std.Legacy.Range).start ([:Int32.toNatClampNeg 2] : Std.Legacy.Range).size ([:Int32.toNatClampNeg 2] : Std.Legacy.Range).step = [0, 1] from rfl]
  rw [show ({ cls := c2, slots := Array.replicate (Int32.toNatClampNeg 2) Value.null } : Cell) = arrV c2 2 (fun _ => .null) from arrV_new c2 2 .null, mzS_push]
  rw [mzS_size]
  have hu : ∀ (f : Nat → Value) (n : Nat), n ≤ 1 → (mzS s (cs ++ arrV c2 2 f :: List.replicate n (arrV c1 2 (fun _ => .int 0)))).slotsUsed + 2 ≤ e.platform.maxSlots := by
    intro f n hn
    rw [mzS_used] at h2 ⊢
    simp [arrV_size]
    omega
  rw [List.forIn_cons, wp_bind']
  refine mzW1_2 (i := 0) (zs := []) hk2 hkind2 rfl hk1 hkind1 hl1 hh1 rfl (by decide) (by omega) (hu _ 0 (by decide)) (fun d1 a1 => ?_)
  dsimp only
  rw [List.forIn_cons, wp_bind']
  refine mzW1_2 (i := 1) (zs := [arrV c1 2 (fun _ => .int 0)]) hk2 hkind2 rfl hk1 hkind1 hl1 hh1 rfl (by decide) (by omega) (hu _ 1 (by decide)) (fun d2 a2 => ?_)
  dsimp only
  rw [List.forIn_nil, wp_pure', wp_pure']
  exact hq _ _
end AR1
section AR2
theorem mz_over {args : Array Value} {s : State} {t : FieldType} (h : (Cond.arrayOver (.array t)).before args s = true) :
    ∃ comp c k, s.vm.findClass (FieldType.array t).toString = some comp ∧ s.vm.classes[c]? = some k ∧ k.kind = .array comp (.array t) ∧ s.vm.findClass ("[" ++ (FieldType.array t).toString) = some c := by
  have h0 : (Cond.arrayOver (.array t)).holds args s none s [] = true := h
  simp only [Cond.holds, Cond.value, beq_iff_eq] at h0
  cases hc : s.vm.findClass (FieldType.array t).toString with
  | none => rw [hc] at h0; simp at h0
  | some comp =>
    rw [hc] at h0
    simp only [Option.bind_some, Option.bind_eq_some_iff, Option.map_eq_some_iff] at h0
    obtain ⟨c, hi, k, hk, hb⟩ := h0
    obtain ⟨hlt, hp, -⟩ := Array.findIdx?_eq_some_iff_getElem.mp hi
    have hkk : s.vm.classes[c] = k := (Array.getElem?_eq_some_iff.mp hk).2
    rw [hkk] at hp
    refine ⟨comp, c, k, rfl, hk, ?_⟩
    cases hkind : k.kind with
    | array cm ty =>
      rw [hkind] at hb hp
      simp at hb hp
      exact ⟨by rw [hp, hb.1], hb.2⟩
    | _ => rw [hkind] at hb; simp at hb
theorem mzS_cons {T : State} {c : Cell} {cs : List Cell} : mzS T (c :: cs) = mzS (T.pushCell c) cs := by
  simp [mzS, State.pushCell, Nat.add_assoc]
variable {p : Program} {l : Launch} {e : Env} {R : Room} {s : State} {m : MethodId} {args : Array Value} {below : List Frame} {meth : Method} {c : Code}
theorem mzStand : ∀ {cs : List Cell} {T : State} {locs : List Loc} {cells slots : Nat}, Stand p l e R s m args below meth c T locs cells slots → Stand p l e R s m args below meth c (mzS T cs) locs (cells + cs.length) (slots + (cs.map (fun c => c.slots.size)).sum) := by
  intro cs
  induction cs with
  | nil => intro T locs cells slots X; rw [mzS_nil]; exact X
  | cons z zs ih =>
    intro T locs cells slots X
    have k := ih (X.pushed z)
    rw [mzS_cons, List.length_cons, List.map_cons, List.sum_cons]
    rw [show cells + (zs.length + 1) = cells + 1 + zs.length by omega, ← Nat.add_assoc]
    exact k
variable {cc : ByteArray} {H : Heap} {locs : List Loc} {cells slots pc : Nat} {ls : Array Slot} {rest : List Value} {Q : State → Prop}
theorem va_multi_1 (hexec : p.tables.exec = Jvm.exec) (hb : c.code = cc) {own : String} {index : Nat} (hown : s.vm.findClass own = some m.cls) (hclink : (Cond.classLink own index "[[I").before args s = true) (ho2 : (Cond.arrayOver (.array .int)).before args s = true) (ha : (Cond.arrayClass .int).before args s = true)
    (hcells : cells + 3 ≤ R.cells) (hslots : slots + 4 ≤ R.slots) (hdg : decode cc pc = .ok (.multianewarray index 2, 4))
    (kk : ∀ c2 c1 : ClassId, ArrOfT s c2 (.array .int) → ArrOfT s c1 .int → s.vm.findClass "[[I" = some c2 → s.vm.findClass "[I" = some c1 →
      W p l e R s m args below meth c (H ++ (mzL_1 c2 c1 H.size).toArray) locs (cells + 3) (slots + 4) Q (F0 m (pc + 4) ls (.ref H.size :: rest))) :
    W p l e R s m args below meth c H locs cells slots Q (F0 m pc ls (.int 1 :: .int 2 :: rest)) := by
  intro T hT X
  subst hT
  have hpl : e.platform.magicAccessors = ({} : Platform).magicAccessors := by rw [X.admits.platform]
  obtain ⟨c1, c2, k2, n1, hk2, hkind2, n2⟩ := mz_over ho2
  obtain ⟨c1', k1, c0, n1', hk1, hkind1⟩ := Cond.arrayClass_spec ha
  have n2 : s.vm.findClass "[[I" = some c2 := n2
  have n1 : s.vm.findClass "[I" = some c1 := n1
  have n1' : s.vm.findClass "[I" = some c1' := n1'
  cases n1.symm.trans n1'
  obtain ⟨c9, hfc, hcl⟩ := Cond.classLink_spec hown hclink e.platform hpl
  cases n2.symm.trans hfc
  obtain ⟨hg1, hwarm, -⟩ := State.classEntry (e := e) X.warmed hcl
  generalize T.vm.noted m.cls index (.cls c2) = vm1 at hg1 hwarm
  have hal : s.vm.Alike vm1 := hwarm.alike
  obtain ⟨j2, hj2, e2⟩ := hal.2.2 _ _ hk2
  obtain ⟨j1, hj1, e1⟩ := hal.2.2 _ _ hk1
  have hi2 : j2.kind = .array c1 (.array .int) := by rw [e2]; exact hkind2
  have hi1 : j1.kind = .array c0 .int := by rw [e1]; exact hkind1
  have X1 := X.noted hwarm
  obtain ⟨hr1, hr2⟩ := X.roomAbove hcells hslots
  have X2 := mzStand (cs := mzL_1 c2 c1 T.heap.size) X1
  have ek : (mzL_1 c2 c1 T.heap.size).length = 3 := rfl
  have es : ((mzL_1 c2 c1 T.heap.size).map (fun c => c.slots.size)).sum = 4 := by
    unfold mzL_1
    simp [arrV_size]
  rw [ek, es] at X2
  obtain ⟨t, st, q⟩ := kk c2 c1 (fun n z => ⟨fun k h => (by cases h), k2, hk2, c1, hkind2⟩) (fun n z => ⟨fun k h => (by cases h), k1, hk1, c0, hkind1⟩) n2 n1 (mzS (T.setVm vm1) (mzL_1 c2 c1 T.heap.size)) rfl X2
  refine ⟨t, ?_, q⟩
  have hdg2 : decode c.code (F0 m pc ls (.int 1 :: .int 2 :: rest)).pc = .ok (.multianewarray index 2, 4) := by rw [hb]; exact hdg
  jvm_step X.here [hexec, hdg2]
  simp only [multianewarray.sem, wp_bind', W.resolveClassAt_links (mm := m) (State.method?_setTop (F0 m pc ls (.int 1 :: .int 2 :: rest)) X.here.top) hg1]
  rw [W.popN, if_neg (by decide)]
  refine ⟨_, State.topJava?_setTop' (s := T.setVm vm1) (F0 m pc ls (.int 1 :: .int 2 :: rest)) X.here.top, [.int 2, .int 1], rest, rfl, rfl, ?_⟩
  simp only [List.mapM_cons, List.mapM_nil, wp_bind', wp_pure']
  have eS : ((T.setTop (F0 m pc ls (.int 1 :: .int 2 :: rest))).setVm vm1).setTop (F0 m pc ls rest) = (T.setVm vm1).setTop (F0 m pc ls rest) := by
    show ((T.setVm vm1).setTop _).setTop _ = _
    rw [State.setTop_setTop]
  rw [eS, ← mzS_nil (s := (T.setVm vm1).setTop (F0 m pc ls rest))]
  refine mz2_1 (k2 := j2) (k1 := j1) (c2 := c2) (c1 := c1) (cc := c0) (cs := []) hj2 hi2 hj1 hi1 (by rw [Launch.admits_arrayLengthLimit X.admits]; decide) (by rw [Launch.admits_maxHeapBytes X.admits]; decide) (by show T.heap.size + 0 + 3 ≤ _; omega) (by show T.slotsUsed + 0 + 4 ≤ _; omega) (fun d' acts' => ?_)
  rw [List.nil_append]
  show wp (do
      mark "op.multianewarray"
      pushRef T.heap.size) _ _ e d' acts' (mzS ((T.setVm vm1).setTop (F0 m pc ls rest)) (mzL_1 c2 c1 T.heap.size))
  rw [mzS_top]
  simp only [wp_bind', W.mark, W.pushRef, State.topJava?_setTop' _ X2.here.top, Option.some.injEq, exists_eq_left', State.setTop_setTop]
  intro acts
  simp [jvm, X2.here.top]
  exact st
theorem va_multi_2 (hexec : p.tables.exec = Jvm.exec) (hb : c.code = cc) {own : String} {index : Nat} (hown : s.vm.findClass own = some m.cls) (hclink : (Cond.classLink own index "[[I").before args s = true) (ho2 : (Cond.arrayOver (.array .int)).before args s = true) (ha : (Cond.arrayClass .int).before args s = true)
    (hcells : cells + 3 ≤ R.cells) (hslots : slots + 6 ≤ R.slots) (hdg : decode cc pc = .ok (.multianewarray index 2, 4))
    (kk : ∀ c2 c1 : ClassId, ArrOfT s c2 (.array .int) → ArrOfT s c1 .int → s.vm.findClass "[[I" = some c2 → s.vm.findClass "[I" = some c1 →
      W p l e R s m args below meth c (H ++ (mzL_2 c2 c1 H.size).toArray) locs (cells + 3) (slots + 6) Q (F0 m (pc + 4) ls (.ref H.size :: rest))) :
    W p l e R s m args below meth c H locs cells slots Q (F0 m pc ls (.int 2 :: .int 2 :: rest)) := by
  intro T hT X
  subst hT
  have hpl : e.platform.magicAccessors = ({} : Platform).magicAccessors := by rw [X.admits.platform]
  obtain ⟨c1, c2, k2, n1, hk2, hkind2, n2⟩ := mz_over ho2
  obtain ⟨c1', k1, c0, n1', hk1, hkind1⟩ := Cond.arrayClass_spec ha
  have n2 : s.vm.findClass "[[I" = some c2 := n2
  have n1 : s.vm.findClass "[I" = some c1 := n1
  have n1' : s.vm.findClass "[I" = some c1' := n1'
  cases n1.symm.trans n1'
  obtain ⟨c9, hfc, hcl⟩ := Cond.classLink_spec hown hclink e.platform hpl
  cases n2.symm.trans hfc
  obtain ⟨hg1, hwarm, -⟩ := State.classEntry (e := e) X.warmed hcl
  generalize T.vm.noted m.cls index (.cls c2) = vm1 at hg1 hwarm
  have hal : s.vm.Alike vm1 := hwarm.alike
  obtain ⟨j2, hj2, e2⟩ := hal.2.2 _ _ hk2
  obtain ⟨j1, hj1, e1⟩ := hal.2.2 _ _ hk1
  have hi2 : j2.kind = .array c1 (.array .int) := by rw [e2]; exact hkind2
  have hi1 : j1.kind = .array c0 .int := by rw [e1]; exact hkind1
  have X1 := X.noted hwarm
  obtain ⟨hr1, hr2⟩ := X.roomAbove hcells hslots
  have X2 := mzStand (cs := mzL_2 c2 c1 T.heap.size) X1
  have ek : (mzL_2 c2 c1 T.heap.size).length = 3 := rfl
  have es : ((mzL_2 c2 c1 T.heap.size).map (fun c => c.slots.size)).sum = 6 := by
    unfold mzL_2
    simp [arrV_size]
  rw [ek, es] at X2
  obtain ⟨t, st, q⟩ := kk c2 c1 (fun n z => ⟨fun k h => (by cases h), k2, hk2, c1, hkind2⟩) (fun n z => ⟨fun k h => (by cases h), k1, hk1, c0, hkind1⟩) n2 n1 (mzS (T.setVm vm1) (mzL_2 c2 c1 T.heap.size)) rfl X2
  refine ⟨t, ?_, q⟩
  have hdg2 : decode c.code (F0 m pc ls (.int 2 :: .int 2 :: rest)).pc = .ok (.multianewarray index 2, 4) := by rw [hb]; exact hdg
  jvm_step X.here [hexec, hdg2]
  simp only [multianewarray.sem, wp_bind', W.resolveClassAt_links (mm := m) (State.method?_setTop (F0 m pc ls (.int 2 :: .int 2 :: rest)) X.here.top) hg1]
  rw [W.popN, if_neg (by decide)]
  refine ⟨_, State.topJava?_setTop' (s := T.setVm vm1) (F0 m pc ls (.int 2 :: .int 2 :: rest)) X.here.top, [.int 2, .int 2], rest, rfl, rfl, ?_⟩
  simp only [List.mapM_cons, List.mapM_nil, wp_bind', wp_pure']
  have eS : ((T.setTop (F0 m pc ls (.int 2 :: .int 2 :: rest))).setVm vm1).setTop (F0 m pc ls rest) = (T.setVm vm1).setTop (F0 m pc ls rest) := by
    show ((T.setVm vm1).setTop _).setTop _ = _
    rw [State.setTop_setTop]
  rw [eS, ← mzS_nil (s := (T.setVm vm1).setTop (F0 m pc ls rest))]
  refine mz2_2 (k2 := j2) (k1 := j1) (c2 := c2) (c1 := c1) (cc := c0) (cs := []) hj2 hi2 hj1 hi1 (by rw [Launch.admits_arrayLengthLimit X.admits]; decide) (by rw [Launch.admits_maxHeapBytes X.admits]; decide) (by show T.heap.size + 0 + 3 ≤ _; omega) (by show T.slotsUsed + 0 + 6 ≤ _; omega) (fun d' acts' => ?_)
  rw [List.nil_append]
  show wp (do
      mark "op.multianewarray"
      pushRef T.heap.size) _ _ e d' acts' (mzS ((T.setVm vm1).setTop (F0 m pc ls rest)) (mzL_2 c2 c1 T.heap.size))
  rw [mzS_top]
  simp only [wp_bind', W.mark, W.pushRef, State.topJava?_setTop' _ X2.here.top, Option.some.injEq, exists_eq_left', State.setTop_setTop]
  intro acts
  simp [jvm, X2.here.top]
  exact st
end AR2
