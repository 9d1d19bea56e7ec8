section MZ3
variable {E : CtlPost} {e : Env} {d : Bool} {acts : List Action} {s : State}
theorem mzW3 {c3 c2 c1 cc : ClassId} {k3 k2 k1 : Class} {zs : List Cell} {f : Nat → Value} {i : Nat} (hk3 : s.vm.classes[c3]? = some k3) (hkind3 : k3.kind = .array c2 (.array (.array .int))) (hk2 : s.vm.classes[c2]? = some k2) (hkind2 : k2.kind = .array c1 (.array .int)) (hk1 : s.vm.classes[c1]? = some k1) (hkind1 : k1.kind = .array cc .int)
    (hl : ¬ 4 > e.platform.arrayLengthLimit) (hh : ¬ 4 * 8 > e.platform.maxHeapBytes) (hi : i < 2)
    (h1 : s.heap.size + (zs.length + 1) + 5 ≤ e.platform.maxCells) (h2 : (mzS s (arrV c3 2 f :: zs)).slotsUsed + 20 ≤ e.platform.maxSlots) {Q : ForInStep PUnit → Pre}
    (hq : ∀ d' acts', Q (ForInStep.yield PUnit.unit) d' acts' (mzS s (arrV c3 2 (updV f i (.ref (s.heap.size + (zs.length + 1)))) :: (zs ++ mzL2 c2 c1 (s.heap.size + (zs.length + 1)))))) :
    wp (do
      let x ← Op.multianewarray.make c2 [4, 4]
      writeLoc s.heap.size i (.ref x)
      Pure.pure (ForInStep.yield PUnit.unit)) Q E e d acts (mzS s (arrV c3 2 f :: zs)) := by
  rw [wp_bind']
  refine mz2 (cs := arrV c3 2 f :: zs) hk2 hkind2 hk1 hkind1 hl hh (by simpa using h1) h2 (fun d1 a1 => ?_)
  rw [wp_bind']
  refine (W.writeLoc _ _ _ _).mpr ?_
  rw [List.length_cons]
  have e3 : (arrV c3 2 f :: zs ++ mzL2 c2 c1 (s.heap.size + (zs.length + 1)))[0]? = some (arrV c3 2 f) := by simp
  refine ⟨arrV c3 2 f, (mzS_get (j := 0)).trans e3, (fun q => by cases q), by rw [arrV_size]; exact hi, ?_, ?_⟩
  · show State.fitsSlot _ c3 .none i _ = true
    have hf : ∀ a, fits (.array (.array .int)) (.ref a) = true := fun a => rfl
    simp [State.fitsSlot, State.slotType?, mzS_vm, hk3, hkind3, hf]
  · rw [arrV_store]
    have e5 : (mzS s (arrV c3 2 f :: zs ++ mzL2 c2 c1 (s.heap.size + (zs.length + 1)))).setCell s.heap.size (arrV c3 2 (updV f i (.ref (s.heap.size + (zs.length + 1))))) = mzS s (arrV c3 2 (updV f i (.ref (s.heap.size + (zs.length + 1)))) :: (zs ++ mzL2 c2 c1 (s.heap.size + (zs.length + 1)))) := mzS_set (j := 0) e3 (by rw [arrV_size, arrV_size])
    rw [e5]
    exact hq _ _
def mzL3 (c3 c2 c1 b : Nat) : List Cell := arrV c3 2 (mzT b) :: (mzL2 c2 c1 (b + 1) ++ mzL2 c2 c1 (b + 6))
theorem mz3 {c3 c2 c1 cc : ClassId} {k3 k2 k1 : Class} (hk3 : s.vm.classes[c3]? = some k3) (hkind3 : k3.kind = .array c2 (.array (.array .int))) (hk2 : s.vm.classes[c2]? = some k2) (hkind2 : k2.kind = .array c1 (.array .int)) (hk1 : s.vm.classes[c1]? = some k1) (hkind1 : k1.kind = .array cc .int)
    (hl : ¬ 4 > e.platform.arrayLengthLimit) (hh : ¬ 4 * 8 > e.platform.maxHeapBytes)
    (h1 : s.heap.size + 11 ≤ e.platform.maxCells) (h2 : s.slotsUsed + 42 ≤ e.platform.maxSlots) {Q : Addr → Pre} (hq : ∀ d' acts', Q s.heap.size d' acts' (mzS s (mzL3 c3 c2 c1 s.heap.size))) :
    wp (Op.multianewarray.make c3 [2, 4, 4]) Q E e d acts s := by
  rw [Op.multianewarray.make]
  simp only [wp_bind', W.ite, show ¬ ((2 : Int32) < 0) by decide, if_false, wp_pure', W.theClass, hk3, hkind3, Option.some.injEq, exists_eq_left']
  refine W.newArray_of hk3 hkind3 (fun q => hl (Nat.lt_of_lt_of_le q (by decide))) (fun q => hh (Nat.lt_of_lt_of_le q (by decide))) (by omega) (by show _ + 2 ≤ _; omega) rfl (fun acts' => ?_)
  simp only [show (List.find? (fun x => decide (x < 0)) [(4 : Int32), 4]) = none by decide]
  rw [ite_self, wp_bind', Std.Legacy.Range.forIn_eq_forIn_range']
  rw [show List.range' ([:Int32.toNatClampNeg 2] : Std.Legacy.Range).start ([:Int32.toNatClampNeg 2] : Std.Legacy.Range).size ([:Int32.toNatClampNeg 2] : Std.Legacy.Range).step = [0, 1] from rfl]
  rw [show ({ cls := c3, slots := Array.replicate (Int32.toNatClampNeg 2) Value.null } : Cell) = arrV c3 2 (fun _ => .null) from arrV_new c3 2 .null]
  have e0 : s.pushCell (arrV c3 2 (fun _ => .null)) = mzS s [arrV c3 2 (fun _ => .null)] := by
    have := mzS_push (s := s) (cs := []) (c := arrV c3 2 (fun _ => .null))
    rw [mzS_nil] at this
    exact this
  rw [e0]
  rw [List.forIn_cons, wp_bind']
  refine mzW3 (i := 0) (zs := []) hk3 hkind3 hk2 hkind2 hk1 hkind1 hl hh (by decide) (by simp; omega) (by rw [mzS_used]; simp [arrV_size]; omega) (fun d1 a1 => ?_)
  dsimp only
  rw [List.forIn_cons, wp_bind']
  refine mzW3 (i := 1) (zs := mzL2 c2 c1 (s.heap.size + 1)) hk3 hkind3 hk2 hkind2 hk1 hkind1 hl hh (by decide) (by simp [mzL2]; omega) (by rw [mzS_used]; simp [arrV_size, mzL2]; omega) (fun d2 a2 => ?_)
  dsimp only
  rw [List.forIn_nil, wp_pure', wp_pure']
  exact hq _ _
end MZ3
section MZ4
theorem mz_over {args : Array Value} {s : State} {t : FieldType} (h : (Cond.arrayOver (.array t)).before args s = true) :
    ∃ comp c k, s.vm.findClass (FieldType.array t).toString = some comp ∧ s.vm.classes[c]? = some k ∧ k.kind = .array comp (.array t) ∧ s.vm.findClass ("[" ++ (FieldType.array t).toString) = some c := by
  have h0 : (Cond.arrayOver (.array t)).holds args s none s [] = true := h
  simp only [Cond.holds, Cond.value, beq_iff_eq] at h0
  cases hc : s.vm.findClass (FieldType.array t).toString with
  | none => rw [hc] at h0; simp at h0
  | some comp =>
    rw [hc] at h0
    simp only [Option.bind_some, Option.bind_eq_some_iff, Option.map_eq_some_iff] at h0
    obtain ⟨c, hi, k, hk, hb⟩ := h0
    obtain ⟨hlt, hp, -⟩ := Array.findIdx?_eq_some_iff_getElem.mp hi
    have hkk : s.vm.classes[c] = k := (Array.getElem?_eq_some_iff.mp hk).2
    rw [hkk] at hp
    refine ⟨comp, c, k, rfl, hk, ?_⟩
    cases hkind : k.kind with
    | array cm ty =>
      rw [hkind] at hb hp
      simp at hb hp
      exact ⟨by rw [hp, hb.1], hb.2⟩
    | _ => rw [hkind] at hb; simp at hb
theorem mzS_cons {T : State} {c : Cell} {cs : List Cell} : mzS T (c :: cs) = mzS (T.pushCell c) cs := by
  simp [mzS, State.pushCell, Nat.add_assoc]
variable {p : Program} {l : Launch} {e : Env} {R : Room} {s : State} {m : MethodId} {args : Array Value} {below : List Frame} {meth : Method} {c : Code}
theorem mzStand : ∀ {cs : List Cell} {T : State} {locs : List Loc} {cells slots : Nat}, Stand p l e R s m args below meth c T locs cells slots → Stand p l e R s m args below meth c (mzS T cs) locs (cells + cs.length) (slots + (cs.map (fun c => c.slots.size)).sum) := by
  intro cs
  induction cs with
  | nil => intro T locs cells slots X; rw [mzS_nil]; exact X
  | cons z zs ih =>
    intro T locs cells slots X
    have k := ih (X.pushed z)
    rw [mzS_cons, List.length_cons, List.map_cons, List.sum_cons]
    rw [show cells + (zs.length + 1) = cells + 1 + zs.length by omega, ← Nat.add_assoc]
    exact k
variable {cc : ByteArray} {H : Heap} {locs : List Loc} {cells slots pc : Nat} {ls : Array Slot} {rest : List Value} {Q : State → Prop}
theorem va_multi (hexec : p.tables.exec = Jvm.exec) (hb : c.code = cc) {own : String} {index : Nat} (hown : s.vm.findClass own = some m.cls) (hclink : (Cond.classLink own index "[[[I").before args s = true) (ho3 : (Cond.arrayOver (.array (.array .int))).before args s = true) (ho2 : (Cond.arrayOver (.array .int)).before args s = true) (ha : (Cond.arrayClass .int).before args s = true)
    (hcells : cells + 11 ≤ R.cells) (hslots : slots + 42 ≤ R.slots) (hdg : decode cc pc = .ok (.multianewarray index 3, 4))
    (kk : ∀ c3 c2 c1 : ClassId, ArrOfT s c3 (.array (.array .int)) → ArrOfT s c2 (.array .int) → ArrOfT s c1 .int → s.vm.findClass "[[[I" = some c3 → s.vm.findClass "[[I" = some c2 → s.vm.findClass "[I" = some c1 →
      W p l e R s m args below meth c (H ++ (mzL3 c3 c2 c1 H.size).toArray) locs (cells + 11) (slots + 42) Q (F0 m (pc + 4) ls (.ref H.size :: rest))) :
    W p l e R s m args below meth c H locs cells slots Q (F0 m pc ls (.int 4 :: .int 4 :: .int 2 :: rest)) := by
  intro T hT X
  subst hT
  have hpl : e.platform.magicAccessors = ({} : Platform).magicAccessors := by rw [X.admits.platform]
  obtain ⟨c2, c3, k3, n2, hk3, hkind3, n3⟩ := mz_over ho3
  obtain ⟨c1, c2', k2, n1, hk2, hkind2, n2'⟩ := mz_over ho2
  obtain ⟨c1', k1, c0, n1', hk1, hkind1⟩ := Cond.arrayClass_spec ha
  have n2 : s.vm.findClass "[[I" = some c2 := n2
  have n2' : s.vm.findClass "[[I" = some c2' := n2'
  cases n2.symm.trans n2'
  have n1 : s.vm.findClass "[I" = some c1 := n1
  have n1' : s.vm.findClass "[I" = some c1' := n1'
  cases n1.symm.trans n1'
  have n3 : s.vm.findClass "[[[I" = some c3 := n3
  obtain ⟨c9, hfc, hcl⟩ := Cond.classLink_spec hown hclink e.platform hpl
  cases n3.symm.trans hfc
  obtain ⟨hg1, hwarm, -⟩ := State.classEntry (e := e) X.warmed hcl
  generalize T.vm.noted m.cls index (.cls c3) = vm1 at hg1 hwarm
  have hal : s.vm.Alike vm1 := hwarm.alike
  obtain ⟨j3, hj3, e3⟩ := hal.2.2 _ _ hk3
  obtain ⟨j2, hj2, e2⟩ := hal.2.2 _ _ hk2
  obtain ⟨j1, hj1, e1⟩ := hal.2.2 _ _ hk1
  have hi3 : j3.kind = .array c2 (.array (.array .int)) := by rw [e3]; exact hkind3
  have hi2 : j2.kind = .array c1 (.array .int) := by rw [e2]; exact hkind2
  have hi1 : j1.kind = .array c0 .int := by rw [e1]; exact hkind1
  have X1 := X.noted hwarm
  obtain ⟨hr1, hr2⟩ := X.roomAbove hcells hslots
  have X2 := mzStand (cs := mzL3 c3 c2 c1 T.heap.size) X1
  have ek : (mzL3 c3 c2 c1 T.heap.size).length = 11 := rfl
  have es : ((mzL3 c3 c2 c1 T.heap.size).map (fun c => c.slots.size)).sum = 42 := by
    unfold mzL3 mzL2
    simp [arrV_size]
  rw [ek, es] at X2
  obtain ⟨t, st, q⟩ := kk c3 c2 c1 (fun n z => ⟨fun k h => (by cases h), k3, hk3, c2, hkind3⟩) (fun n z => ⟨fun k h => (by cases h), k2, hk2, c1, hkind2⟩) (fun n z => ⟨fun k h => (by cases h), k1, hk1, c0, hkind1⟩) n3 n2 n1 (mzS (T.setVm vm1) (mzL3 c3 c2 c1 T.heap.size)) rfl X2
  refine ⟨t, ?_, q⟩
  have hdg2 : decode c.code (F0 m pc ls (.int 4 :: .int 4 :: .int 2 :: rest)).pc = .ok (.multianewarray index 3, 4) := by rw [hb]; exact hdg
  jvm_step X.here [hexec, hdg2]
  simp only [multianewarray.sem, wp_bind', W.resolveClassAt_links (mm := m) (State.method?_setTop (F0 m pc ls (.int 4 :: .int 4 :: .int 2 :: rest)) X.here.top) hg1]
  rw [W.popN, if_neg (by decide)]
  refine ⟨_, State.topJava?_setTop' (s := T.setVm vm1) (F0 m pc ls (.int 4 :: .int 4 :: .int 2 :: rest)) X.here.top, [.int 2, .int 4, .int 4], rest, rfl, rfl, ?_⟩
  simp only [List.mapM_cons, List.mapM_nil, wp_bind', wp_pure']
  have eS : ((T.setTop (F0 m pc ls (.int 4 :: .int 4 :: .int 2 :: rest))).setVm vm1).setTop (F0 m pc ls rest) = (T.setVm vm1).setTop (F0 m pc ls rest) := by
    show ((T.setVm vm1).setTop _).setTop _ = _
    rw [State.setTop_setTop]
  refine mz3 (k3 := j3) (k2 := j2) (k1 := j1) (c2 := c2) (c1 := c1) (cc := c0) hj3 hi3 hj2 hi2 hj1 hi1 (by rw [Launch.admits_arrayLengthLimit X.admits]; decide) (by rw [Launch.admits_maxHeapBytes X.admits]; decide) (by show T.heap.size + 11 ≤ _; omega) (by show T.slotsUsed + 42 ≤ _; omega) (fun d' acts' => ?_)
  show wp (do
      mark "op.multianewarray"
      pushRef T.heap.size) _ _ e d' acts' (mzS (((T.setTop (F0 m pc ls (.int 4 :: .int 4 :: .int 2 :: rest))).setVm vm1).setTop (F0 m pc ls rest)) (mzL3 c3 c2 c1 T.heap.size))
  rw [eS, mzS_top]
  simp only [wp_bind', W.mark, W.pushRef, State.topJava?_setTop' _ X2.here.top, Option.some.injEq, exists_eq_left', State.setTop_setTop]
  intro acts
  simp [jvm, X2.here.top]
  exact st
end MZ4
section MZ5
def mzw (b : Nat) : List (ClassId × vp_A) → va_W
  | [] => []
  | q :: r => (b, .inl q) :: mzw (b + 1) r
theorem mzw_len {b : Nat} {es : List (ClassId × vp_A)} : (mzw b es).length = es.length := by
  induction es generalizing b with
  | nil => rfl
  | cons q r ih => unfold mzw; rw [List.length_cons, List.length_cons, ih]
theorem mz_app {D : va_G} {cl : List vw_C} {A : Nat → Prop} {H0 : Heap} {locs : List Loc} (hA : ∀ q, H0.size ≤ q → A q) : ∀ {es : List (ClassId × vp_A)} {ws : va_W} {H : Heap}, va_P D cl ws H → va_D A ws → va_S A H0 H locs →
    va_P D cl (ws ++ mzw H.size es) (H ++ (es.map (fun q => vp_cell q.1 q.2)).toArray) ∧ va_D A (ws ++ mzw H.size es) ∧ va_S A H0 (H ++ (es.map (fun q => vp_cell q.1 q.2)).toArray) locs := by
  intro es
  induction es with
  | nil =>
    intro ws H hP hD hS
    unfold mzw
    rw [List.append_nil]
    have e : H ++ (([] : List (ClassId × vp_A)).map (fun q => vp_cell q.1 q.2)).toArray = H := by simp
    rw [e]
    exact ⟨hP, hD, hS⟩
  | cons z zs ih =>
    intro ws H hP hD hS
    generalize hH1 : H.push (vp_cell z.1 z.2) = H1
    have z1 : H1.size = H.size + 1 := by rw [← hH1, Array.size_push]
    have e1 : H1[H.size]? = some (vp_cell z.1 z.2) := by rw [← hH1, Array.getElem?_push_size]
    have o1 : ∀ q : Nat, q < H.size → H1[q]? = H[q]? := fun q hq => by rw [← hH1, Array.getElem?_push, if_neg (Nat.ne_of_lt hq)]
    have hk : ∀ (k : Nat) (x : Nat × va_E), ws[k]? = some x → H1[x.1]? = H[x.1]? := fun k x hx => o1 x.1 ((hP k x hx).lt)
    have hP1 : va_P D cl (ws ++ [(H.size, .inl z)]) H1 := (hP.kept hk).app (fun k x hx => by
      have hz : k < 1 := (List.getElem?_eq_some_iff.mp hx).1
      rw [show k = 0 by omega] at hx
      cases hx
      exact e1)
    have hD1 : va_D A (ws ++ [(H.size, .inl z)]) := hD.push hP rfl (hA _ hS.1)
    have hS1 : va_S A H0 H1 locs := ⟨Nat.le_trans hS.1 (by omega), fun x h1 h2 => (o1 x (Nat.lt_of_lt_of_le h1 hS.1)).trans (hS.2.1 x h1 h2), hS.2.2⟩
    have g := ih hP1 hD1 hS1
    have eH : H ++ ((z :: zs).map (fun q => vp_cell q.1 q.2)).toArray = H1 ++ (zs.map (fun q => vp_cell q.1 q.2)).toArray := by
      rw [← hH1]; simp
    have eW : ws ++ mzw H.size (z :: zs) = ws ++ [(H.size, .inl z)] ++ mzw H1.size zs := by
      rw [z1, List.append_assoc]; rfl
    rw [eH, eW]
    exact g
theorem mj_hr_app {as bs : List Nat} {sp : Nat → Nat} {tys tys1 : List (ClassId × FieldType)} {M N : mH} {ws es : va_W} (hr : mj_hr as sp tys M ws) (ht : ∀ (i : Nat) (z : ClassId × FieldType), tys[i]? = some z → tys1[i]? = some z) (h1 : bs.length = N.length) (h2 : es.length = N.length)
    (h3 : ∀ (j : Nat) (e : mE), N[j]? = some e → ∃ (a : Nat) (q : va_E), bs[j]? = some a ∧ es[j]? = some (a, q) ∧ mj_er (as ++ bs) sp tys1 e q) : mj_hr (as ++ bs) sp tys1 (M ++ N) (ws ++ es) := by
  refine ⟨by simp [hr.1, h1], by simp [hr.2.1, h2], fun i e hi => ?_⟩
  rcases Nat.lt_or_ge i M.length with hlt | hge
  · rw [List.getElem?_append_left hlt] at hi
    obtain ⟨a, y, g1, g2, g3⟩ := hr.2.2 i e hi
    exact ⟨a, y, mj_le_app _ _ g1, by rw [List.getElem?_append_left (by rw [hr.2.1]; exact hlt)]; exact g2, mj_er_mono mj_le_app ht g3⟩
  · rw [List.getElem?_append_right hge] at hi
    obtain ⟨a, q, g1, g2, g3⟩ := h3 _ _ hi
    exact ⟨a, q, by rw [List.getElem?_append_right (by rw [hr.1]; exact hge), hr.1]; exact g1, by rw [List.getElem?_append_right (by rw [hr.2.1]; exact hge), hr.2.1]; exact g2, g3⟩
theorem mz_qr_up {as : List Nat} {f g : Nat → Option Nat} {k i a : Nat} (h : ∀ j, mj_qr as (f j) (g j)) (hi : as[i]? = some a) : ∀ j, mj_qr as (va_up f k (some i) j) (va_up g k (some a) j) := by
  intro j
  unfold va_up
  by_cases e : j = k
  · rw [if_pos e, if_pos e]; exact ⟨a, hi, rfl⟩
  · rw [if_neg e, if_neg e]; exact h j
theorem mj_qr_nil {as : List Nat} : ∀ j, mj_qr as ((fun _ : Nat => (none : Option Nat)) j) ((fun _ : Nat => (none : Option Nat)) j) := fun _ => rfl
def mzE (c3 c2 c1 b : Nat) : List (ClassId × vp_A) := [(c3, 2, .inr (.inr (.inr (.inr (mzU b))))), (c2, 4, .inr (.inr (.inr (.inr (mzG (b + 2)))))), (c1, 4, .inl (fun _ => 0)), (c1, 4, .inl (fun _ => 0)), (c1, 4, .inl (fun _ => 0)), (c1, 4, .inl (fun _ => 0)),
  (c2, 4, .inr (.inr (.inr (.inr (mzG (b + 7)))))), (c1, 4, .inl (fun _ => 0)), (c1, 4, .inl (fun _ => 0)), (c1, 4, .inl (fun _ => 0)), (c1, 4, .inl (fun _ => 0))]
theorem mzE_eq {c3 c2 c1 b : Nat} : (mzE c3 c2 c1 b).map (fun q => vp_cell q.1 q.2) = mzL3 c3 c2 c1 b := by
  unfold mzE mzL3 mzL2
  simp only [List.map_cons, List.map_nil, vp_cell_q, mzT_eq, mzF_eq]
  rfl
def mzB (b : Nat) : List Nat := [b, b + 1, b + 2, b + 3, b + 4, b + 5, b + 6, b + 7, b + 8, b + 9, b + 10]
def mzM (h : Nat) : mH := [.inl (.array (.array .int), 2, .inr (.inr (.inr (.inr (mzU h))))), .inl (.array .int, 4, .inr (.inr (.inr (.inr (mzG (h + 2)))))), .inl (.int, 4, .inl (fun _ => 0)), .inl (.int, 4, .inl (fun _ => 0)), .inl (.int, 4, .inl (fun _ => 0)), .inl (.int, 4, .inl (fun _ => 0)),
  .inl (.array .int, 4, .inr (.inr (.inr (.inr (mzG (h + 7)))))), .inl (.int, 4, .inl (fun _ => 0)), .inl (.int, 4, .inl (fun _ => 0)), .inl (.int, 4, .inl (fun _ => 0)), .inl (.int, 4, .inl (fun _ => 0))]
theorem mz_as {as : List Nat} {b n t : Nat} (hn : as.length = n) (ht : t < 11) : (as ++ mzB b)[n + t]? = some (b + t) := by
  rw [List.getElem?_append_right (by omega), hn, show n + t - n = t by omega]
  match t, ht with
  | 0, _ => rfl
  | 1, _ => rfl
  | 2, _ => rfl
  | 3, _ => rfl
  | 4, _ => rfl
  | 5, _ => rfl
  | 6, _ => rfl
  | 7, _ => rfl
  | 8, _ => rfl
  | 9, _ => rfl
  | 10, _ => rfl
theorem mz_qG {as : List Nat} {b n t : Nat} (hn : as.length = n) (ht : t + 3 < 11) : ∀ j, mj_qr (as ++ mzB b) (mzG (n + t) j) (mzG (b + t) j) := by
  unfold mzG
  exact mz_qr_up (mz_qr_up (mz_qr_up (mz_qr_up mj_qr_nil (mz_as hn (by omega))) (mz_as (t := t + 1) hn (by omega))) (mz_as (t := t + 2) hn (by omega))) (mz_as (t := t + 3) hn (by omega))
theorem mz_qU {as : List Nat} {b n : Nat} (hn : as.length = n) : ∀ j, mj_qr (as ++ mzB b) (mzU n j) (mzU b j) := by
  unfold mzU
  exact mz_qr_up (mz_qr_up mj_qr_nil (mz_as (t := 1) hn (by omega))) (mz_as (t := 6) hn (by omega))
variable {TT : List Cond} {cl : List vw_C} {X : XT} {mi : MI}
theorem lx_multi {index pc fr lo kc ks : Nat} {P : Option Value → mH → Prop} {PX : String → mH → Prop} {L : List (Nat × Value)} {S : List Value} {M : mH} (d : decode mi.2.1 pc = .ok (.multianewarray index 3, 4)) (hl : Cond.classLink mi.1.cls index "[[[I" ∈ TT) (h3 : Cond.arrayOver (.array (.array .int)) ∈ TT) (h2 : Cond.arrayOver (.array .int) ∈ TT) (h1 : Cond.arrayClass .int ∈ TT)
    (kk : LX TT cl X mi fr lo P PX kc ks (pc + 4) L (.ref M.length :: S) (M ++ mzM M.length)) : LX TT cl X mi fr lo P PX (kc + 11) (ks + 42) pc L (.int 4 :: .int 4 :: .int 2 :: S) M := by
  intro p l e R s m args below meth c Qc XC free D sp A as0 F kq kx as L1 S1 H locs cells slots ls h0 hW hS hl1 hL hSt hcs hss
  have h9 := mj_al_cons hSt
  clear hSt
  obtain ⟨_, S1, rfl, rfl, hSt⟩ := h9
  have h9 := mj_al_cons hSt
  clear hSt
  obtain ⟨_, S1, rfl, rfl, hSt⟩ := h9
  have h9 := mj_al_cons hSt
  clear hSt
  obtain ⟨_, S1, rfl, rfl, hSt⟩ := h9
  obtain ⟨ws, tys, hK, hP, hD, hr⟩ := hW
  refine va_multi F.1 F.2.1 F.2.2.2.1 (F.2.2.2.2.1 _ hl) (F.2.2.2.2.1 _ h3) (F.2.2.2.2.1 _ h2) (F.2.2.2.2.1 _ h1) (by omega) (by omega) d (fun c3 c2 c1 a3 a2 a1 n3 n2 n1 => ?_)
  rw [← mzE_eq]
  obtain ⟨hP1, hD1, hS1⟩ := mz_app (es := mzE c3 c2 c1 H.size) F.2.2.2.2.2.2.2.2.2.2.2.2.1 hP hD hS
  have hle : mj_le as (as ++ mzB H.size) := mj_le_app
  have hK1 : va_K D cl (tys ++ [(c3, .array (.array .int)), (c2, .array .int), (c1, .int)]) s := by
    refine hK.app ⟨hK.1, fun k q hq => ?_⟩
    match k, hq with
    | 0, hq => cases hq; exact ⟨a3, n3⟩
    | 1, hq => cases hq; exact ⟨a2, n2⟩
    | 2, hq => cases hq; exact ⟨a1, n1⟩
    | n + 3, hq => cases hq
  have t3 : ∃ t : Nat, (tys ++ [(c3, FieldType.array (.array .int)), (c2, .array .int), (c1, .int)])[t]? = some (c3, .array (.array .int)) := ⟨tys.length, by simp⟩
  have t2 : ∃ t : Nat, (tys ++ [(c3, FieldType.array (.array .int)), (c2, .array .int), (c1, .int)])[t]? = some (c2, .array .int) := ⟨tys.length + 1, by simp⟩
  have t1 : ∃ t : Nat, (tys ++ [(c3, FieldType.array (.array .int)), (c2, .array .int), (c1, .int)])[t]? = some (c1, .int) := ⟨tys.length + 2, by simp⟩
  have hr1 : mj_hr (as ++ mzB H.size) sp (tys ++ [(c3, .array (.array .int)), (c2, .array .int), (c1, .int)]) (M ++ mzM M.length) (ws ++ mzw H.size (mzE c3 c2 c1 H.size)) := by
    refine mj_hr_app hr (fun i z hz => by rw [List.getElem?_append_left (List.getElem?_eq_some_iff.mp hz).1]; exact hz) rfl rfl (fun j x hx => ?_)
    match j, hx with
    | 0, hx => cases hx; exact ⟨_, _, rfl, rfl, t3, rfl, mz_qU hr.1⟩
    | 1, hx => cases hx; exact ⟨_, _, rfl, rfl, t2, rfl, mz_qG hr.1 (by omega)⟩
    | 2, hx => cases hx; exact ⟨_, _, rfl, rfl, t1, rfl, rfl⟩
    | 3, hx => cases hx; exact ⟨_, _, rfl, rfl, t1, rfl, rfl⟩
    | 4, hx => cases hx; exact ⟨_, _, rfl, rfl, t1, rfl, rfl⟩
    | 5, hx => cases hx; exact ⟨_, _, rfl, rfl, t1, rfl, rfl⟩
    | 6, hx => cases hx; exact ⟨_, _, rfl, rfl, t2, rfl, mz_qG hr.1 (by omega)⟩
    | 7, hx => cases hx; exact ⟨_, _, rfl, rfl, t1, rfl, rfl⟩
    | 8, hx => cases hx; exact ⟨_, _, rfl, rfl, t1, rfl, rfl⟩
    | 9, hx => cases hx; exact ⟨_, _, rfl, rfl, t1, rfl, rfl⟩
    | 10, hx => cases hx; exact ⟨_, _, rfl, rfl, t1, rfl, rfl⟩
    | n + 11, hx => cases hx
  exact kk p l e R s m args below meth c Qc XC free D sp A as0 F kq kx (as ++ mzB H.size) L1 _ _ locs (cells + 11) (slots + 42) ls (mj_le_tr h0 hle) ⟨_, _, hK1, hP1, hD1, hr1⟩ hS1 hl1 (mj_al_mono (fun _ _ h => mj_lr_mono hle h) hL)
    ⟨⟨H.size, mz_as (t := 0) hr.1 (by omega), rfl⟩, mj_al_mono (fun _ _ h => mj_vr_mono hle h) hSt⟩ (by omega) (by omega)
end MZ5
section MZ6
theorem tmul_1 : Jvm.Cond.classLink "MiterhouseModel" (35 : Nat) "[[[I" ∈ TT := ttk_8 (List.mem_of_getElem? (i := 174) rfl) rfl
theorem tmul_2 : Jvm.Cond.arrayOver (.array (.array .int)) ∈ TT := ttk_8 (List.mem_of_getElem? (i := 175) rfl) rfl
theorem tmul_3 : Jvm.Cond.arrayOver (.array .int) ∈ TT := ttk_8 (List.mem_of_getElem? (i := 176) rfl) rfl
theorem tmul_4 : Jvm.Cond.arrayClass .int ∈ TT := ttk_1 (List.mem_of_getElem? (i := 109) rfl) rfl
theorem mul_ok {X : XT} : kMul TT cl6 X (mis 119) 79 [.int (Int32.ofInt 4), .int (Int32.ofInt 4), .int (Int32.ofInt 2)] mulN 11 42 := by
  intro ρ fr lo P PX kc ks L S M kk
  have e1 : sdM ρ (mulN M.length) = mzM M.length := rfl
  rw [e1] at kk
  have e4 : Int32.ofInt 4 = 4 := by decide
  have e2 : Int32.ofInt 2 = 2 := by decide
  rw [e4, e2]
  exact lx_multi (index := 35) (by decide +kernel) tmul_1 tmul_2 tmul_3 tmul_4 kk
end MZ6
