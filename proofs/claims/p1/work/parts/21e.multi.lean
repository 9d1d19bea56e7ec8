section MZ1
/-! new int[2][4][4]: eleven arrays -/
/-- the state with cells more -/
def mzS (s : State) (cs : List Cell) : State := { s with heap := s.heap ++ cs.toArray, slotsUsed := s.slotsUsed + (cs.map (fun c => c.slots.size)).sum }
theorem mzS_nil {s : State} : mzS s [] = s := by
  simp [mzS]
theorem mzS_push {s : State} {cs : List Cell} {c : Cell} : (mzS s cs).pushCell c = mzS s (cs ++ [c]) := by
  simp [mzS, State.pushCell, Nat.add_assoc]
theorem mzS_size {s : State} {cs : List Cell} : (mzS s cs).heap.size = s.heap.size + cs.length := by
  simp [mzS]
theorem mzS_used {s : State} {cs : List Cell} : (mzS s cs).slotsUsed = s.slotsUsed + (cs.map (fun c => c.slots.size)).sum := rfl
theorem mzS_vm {s : State} {cs : List Cell} : (mzS s cs).vm = s.vm := rfl
theorem mzS_get {s : State} {cs : List Cell} {j : Nat} : (mzS s cs).heap[s.heap.size + j]? = cs[j]? := by
  show (s.heap ++ cs.toArray)[s.heap.size + j]? = _
  rw [Array.getElem?_append_right (by omega)]
  simp
theorem mzS_old {s : State} {cs : List Cell} {q : Nat} (h : q < s.heap.size) : (mzS s cs).heap[q]? = s.heap[q]? := by
  show (s.heap ++ cs.toArray)[q]? = _
  exact Array.getElem?_append_left h
theorem mzS_set {s : State} {cs : List Cell} {j : Nat} {c c0 : Cell} (h : cs[j]? = some c0) (hs : c.slots.size = c0.slots.size) : (mzS s cs).setCell (s.heap.size + j) c = mzS s (cs.set j c) := by
  have e1 : (s.heap ++ cs.toArray).setIfInBounds (s.heap.size + j) c = s.heap ++ (cs.set j c).toArray := by
    apply Array.ext'
    simp [List.set_append]
  have e2 : ((cs.set j c).map (fun c => c.slots.size)).sum = (cs.map (fun c => c.slots.size)).sum := by
    rw [List.map_set]
    congr 1
    have h1 : (cs.map (fun c => c.slots.size))[j]? = some c.slots.size := by rw [List.getElem?_map, h, hs]; rfl
    apply List.ext_getElem?
    intro i
    rw [List.getElem?_set]
    split
    · rename_i e
      subst e
      rw [h1]
      split
      · rfl
      · rename_i q
        exact absurd (List.getElem?_eq_some_iff.mp h1).1 q
    · rfl
  unfold State.setCell mzS
  rw [e2]
  dsimp only
  rw [e1]
theorem mzS_top {s : State} {cs : List Cell} {f : JFrame} : mzS (s.setTop f) cs = (mzS s cs).setTop f := rfl
section
variable {E : CtlPost} {e : Env} {d : Bool} {acts : List Action} {s : State}
theorem mz1 {c cc : ClassId} {k : Class} {cs : List Cell} (hk : s.vm.classes[c]? = some k) (hkind : k.kind = .array cc .int) (hl : ¬ 4 > e.platform.arrayLengthLimit) (hh : ¬ 4 * componentBytes .int > e.platform.maxHeapBytes)
    (h1 : (mzS s cs).heap.size < e.platform.maxCells) (h2 : (mzS s cs).slotsUsed + 4 ≤ e.platform.maxSlots) {Q : Addr → Pre} (hq : ∀ acts', Q (s.heap.size + cs.length) d acts' (mzS s (cs ++ [arrV c 4 (fun _ => .int 0)]))) :
    wp (Op.multianewarray.make c [4]) Q E e d acts (mzS s cs) := by
  rw [Op.multianewarray.make]
  simp only [wp_bind', W.ite, show ¬ ((4 : Int32) < 0) by decide, if_false, wp_pure', W.theClass, mzS_vm, hk, hkind, Option.some.injEq, exists_eq_left']
  refine W.newArray_of (by rw [mzS_vm]; exact hk) hkind hl hh h1 h2 rfl (fun acts' => ?_)
  have e1 := arrV_new c 4 (.int 0)
  rw [mzS_size]
  have := hq acts'
  rw [← mzS_push, ← e1] at this
  exact this
/-- the references to b, b + 1, b + 2, b + 3 -/
def mzF (b : Nat) : Nat → Value := updV (updV (updV (updV (fun _ => .null) 0 (.ref b)) 1 (.ref (b + 1))) 2 (.ref (b + 2))) 3 (.ref (b + 3))
def mzG (b : Nat) : Nat → Option Nat := va_up (va_up (va_up (va_up (fun _ => none) 0 (some b)) 1 (some (b + 1))) 2 (some (b + 2))) 3 (some (b + 3))
def mzT (b : Nat) : Nat → Value := updV (updV (fun _ => .null) 0 (.ref (b + 1))) 1 (.ref (b + 6))
def mzU (b : Nat) : Nat → Option Nat := va_up (va_up (fun _ => none) 0 (some (b + 1))) 1 (some (b + 6))
theorem mz_up {f : Nat → Value} {g : Nat → Option Nat} {i b : Nat} (h : f = fun j => va_rf (g j)) : updV f i (.ref b) = fun j => va_rf (va_up g i (some b) j) := by
  subst h
  funext j
  unfold updV va_up
  by_cases e : j = i
  · rw [if_pos e, if_pos e]; rfl
  · rw [if_neg e, if_neg e]
theorem mzF_eq {b : Nat} : mzF b = fun j => va_rf (mzG b j) := mz_up (mz_up (mz_up (mz_up rfl)))
theorem mzT_eq {b : Nat} : mzT b = fun j => va_rf (mzU b j) := mz_up (mz_up rfl)
theorem mzW {c2 c1 cc : ClassId} {k2 k1 : Class} {cs zs : List Cell} {f : Nat → Value} {i n : Nat} {ty : FieldType} (hk2 : s.vm.classes[c2]? = some k2) (hkind2 : k2.kind = .array c1 ty) (hty : ty.isReference = true) (hk1 : s.vm.classes[c1]? = some k1) (hkind1 : k1.kind = .array cc .int)
    (hl : ¬ 4 > e.platform.arrayLengthLimit) (hh : ¬ 4 * 8 > e.platform.maxHeapBytes) (hz : zs.length = i) (hi : i < n)
    (h1 : s.heap.size + cs.length + 1 + i < e.platform.maxCells) (h2 : (mzS s (cs ++ arrV c2 n f :: zs)).slotsUsed + 4 ≤ e.platform.maxSlots) {Q : Unit → Pre}
    (hq : ∀ d' acts', Q () d' acts' (mzS s (cs ++ arrV c2 n (updV f i (.ref (s.heap.size + cs.length + 1 + i))) :: (zs ++ [arrV c1 4 (fun _ => .int 0)])))) :
    wp (Op.multianewarray.make c1 [4]) (fun a => wp (writeLoc (s.heap.size + cs.length) i (.ref a)) Q E e) E e d acts (mzS s (cs ++ arrV c2 n f :: zs)) := by
  refine mz1 hk1 hkind1 hl (fun q => hh (Nat.lt_of_lt_of_le q (by decide))) (by rw [mzS_size]; simp [hz]; omega) h2 (fun acts' => ?_)
  have e1 : s.heap.size + (cs ++ arrV c2 n f :: zs).length = s.heap.size + cs.length + 1 + i := by simp [hz]; omega
  rw [e1]
  refine (W.writeLoc _ _ _ _).mpr ?_
  have e2 : (cs ++ arrV c2 n f :: zs) ++ [arrV c1 4 (fun _ => .int 0)] = cs ++ arrV c2 n f :: (zs ++ [arrV c1 4 (fun _ => .int 0)]) := by simp
  rw [e2]
  have e3 : (cs ++ arrV c2 n f :: (zs ++ [arrV c1 4 (fun _ => .int 0)]))[cs.length]? = some (arrV c2 n f) := by simp
  refine ⟨arrV c2 n f, mzS_get.trans e3, (fun q => by cases q), by rw [arrV_size]; exact hi, ?_, ?_⟩
  · show State.fitsSlot _ c2 .none i _ = true
    have hf : ∀ a, fits ty (.ref a) = true := by
      intro a
      cases ty <;> first | (cases hty; done) | rfl
    simp [State.fitsSlot, State.slotType?, mzS_vm, hk2, hkind2, hf]
  · rw [arrV_store, mzS_set e3 (by rw [arrV_size, arrV_size])]
    have e4 : (cs ++ arrV c2 n f :: (zs ++ [arrV c1 4 (fun _ => .int 0)])).set cs.length (arrV c2 n (updV f i (.ref (s.heap.size + cs.length + 1 + i)))) = cs ++ arrV c2 n (updV f i (.ref (s.heap.size + cs.length + 1 + i))) :: (zs ++ [arrV c1 4 (fun _ => .int 0)]) := by simp
    rw [e4]
    exact hq _ _
theorem mzW1 {c2 c1 cc : ClassId} {k2 k1 : Class} {cs zs : List Cell} {f : Nat → Value} {i n : Nat} {ty : FieldType} (hk2 : s.vm.classes[c2]? = some k2) (hkind2 : k2.kind = .array c1 ty) (hty : ty.isReference = true) (hk1 : s.vm.classes[c1]? = some k1) (hkind1 : k1.kind = .array cc .int)
    (hl : ¬ 4 > e.platform.arrayLengthLimit) (hh : ¬ 4 * 8 > e.platform.maxHeapBytes) (hz : zs.length = i) (hi : i < n)
    (h1 : s.heap.size + cs.length + 1 + i < e.platform.maxCells) (h2 : (mzS s (cs ++ arrV c2 n f :: zs)).slotsUsed + 4 ≤ e.platform.maxSlots) {Q : ForInStep PUnit → Pre}
    (hq : ∀ d' acts', Q (ForInStep.yield PUnit.unit) d' acts' (mzS s (cs ++ arrV c2 n (updV f i (.ref (s.heap.size + cs.length + 1 + i))) :: (zs ++ [arrV c1 4 (fun _ => .int 0)])))) :
    wp (do
      let x ← Op.multianewarray.make c1 [4]
      writeLoc (s.heap.size + cs.length) i (.ref x)
      Pure.pure (ForInStep.yield PUnit.unit)) Q E e d acts (mzS s (cs ++ arrV c2 n f :: zs)) := by
  rw [wp_bind']
  have k := mzW (e := e) (d := d) (acts := acts) (E := E) (Q := fun _ => Q (ForInStep.yield PUnit.unit)) hk2 hkind2 hty hk1 hkind1 hl hh hz hi h1 h2 hq
  have hf : (fun a => wp (do
      writeLoc (s.heap.size + cs.length) i (.ref a)
      Pure.pure (ForInStep.yield PUnit.unit)) Q E e) = (fun a => wp (writeLoc (s.heap.size + cs.length) i (.ref a)) (fun _ => Q (ForInStep.yield PUnit.unit)) E e) := by
    funext a d acts s
    rw [wp_bind']
    congr 1
  rw [hf]
  exact k
def mzL2 (c2 c1 b : Nat) : List Cell := [arrV c2 4 (mzF (b + 1)), arrV c1 4 (fun _ => .int 0), arrV c1 4 (fun _ => .int 0), arrV c1 4 (fun _ => .int 0), arrV c1 4 (fun _ => .int 0)]
theorem mz2 {c2 c1 cc : ClassId} {k2 k1 : Class} {cs : List Cell} (hk2 : s.vm.classes[c2]? = some k2) (hkind2 : k2.kind = .array c1 (.array .int)) (hk1 : s.vm.classes[c1]? = some k1) (hkind1 : k1.kind = .array cc .int)
    (hl : ¬ 4 > e.platform.arrayLengthLimit) (hh : ¬ 4 * 8 > e.platform.maxHeapBytes)
    (h1 : s.heap.size + cs.length + 5 ≤ e.platform.maxCells) (h2 : (mzS s cs).slotsUsed + 20 ≤ e.platform.maxSlots) {Q : Addr → Pre} (hq : ∀ d' acts', Q (s.heap.size + cs.length) d' acts' (mzS s (cs ++ mzL2 c2 c1 (s.heap.size + cs.length)))) :
    wp (Op.multianewarray.make c2 [4, 4]) Q E e d acts (mzS s cs) := by
  rw [Op.multianewarray.make]
  simp only [wp_bind', W.ite, show ¬ ((4 : Int32) < 0) by decide, if_false, wp_pure', W.theClass, mzS_vm, hk2, hkind2, Option.some.injEq, exists_eq_left']
  refine W.newArray_of (by rw [mzS_vm]; exact hk2) hkind2 hl (fun q => hh (Nat.lt_of_lt_of_le q (by decide))) (by rw [mzS_size]; omega) (by rw [mzS_used] at h2 ⊢; show _ + 4 ≤ _; omega) rfl (fun acts' => ?_)
  simp only [show (List.find? (fun x => decide (x < 0)) [(4 : Int32)]) = none by decide]
  rw [ite_self, wp_bind', Std.Legacy.Range.forIn_eq_forIn_range']
  rw [show List.range' ([:Int32.toNatClampNeg 4] : Std.Legacy.Range).start ([:Int32.toNatClampNeg 4] : Std.Legacy.Range).size ([:Int32.toNatClampNeg 4] : Std.Legacy.Range).step = [0, 1, 2, 3] from rfl]
  rw [show ({ cls := c2, slots := Array.replicate (Int32.toNatClampNeg 4) Value.null } : Cell) = arrV c2 4 (fun _ => .null) from arrV_new c2 4 .null, mzS_push]
  rw [mzS_size]
  have hu : ∀ (f : Nat → Value) (n : Nat), n ≤ 3 → (mzS s (cs ++ arrV c2 4 f :: List.replicate n (arrV c1 4 (fun _ => .int 0)))).slotsUsed + 4 ≤ e.platform.maxSlots := by
    intro f n hn
    rw [mzS_used] at h2 ⊢
    simp [arrV_size]
    omega
  rw [List.forIn_cons, wp_bind']
  refine mzW1 (i := 0) (zs := []) hk2 hkind2 rfl hk1 hkind1 hl hh rfl (by decide) (by omega) (hu _ 0 (by decide)) (fun d1 a1 => ?_)
  dsimp only
  rw [List.forIn_cons, wp_bind']
  refine mzW1 (i := 1) (zs := [arrV c1 4 (fun _ => .int 0)]) hk2 hkind2 rfl hk1 hkind1 hl hh rfl (by decide) (by omega) (hu _ 1 (by decide)) (fun d2 a2 => ?_)
  dsimp only
  rw [List.forIn_cons, wp_bind']
  refine mzW1 (i := 2) (zs := [arrV c1 4 (fun _ => .int 0), arrV c1 4 (fun _ => .int 0)]) hk2 hkind2 rfl hk1 hkind1 hl hh rfl (by decide) (by omega) (hu _ 2 (by decide)) (fun d3 a3 => ?_)
  dsimp only
  rw [List.forIn_cons, wp_bind']
  refine mzW1 (i := 3) (zs := [arrV c1 4 (fun _ => .int 0), arrV c1 4 (fun _ => .int 0), arrV c1 4 (fun _ => .int 0)]) hk2 hkind2 rfl hk1 hkind1 hl hh rfl (by decide) (by omega) (hu _ 3 (by decide)) (fun d4 a4 => ?_)
  dsimp only
  rw [List.forIn_nil, wp_pure', wp_pure']
  exact hq _ _
end
end MZ1
