section
/-! ===== BEGIN words of one list among another's, by their places ===== -/
theorem goodIn_r {big : List Cond} (ws : List Cond) (ps : List Nat) (hp : ws = ps.filterMap (fun i => big[i]?)) (h : ws.all goodWord = true) : GoodIn big ws := by
  intro w hw
  have h1 := List.all_eq_true.mp h w hw
  rw [hp] at hw
  obtain ⟨i, -, hi⟩ := List.mem_filterMap.mp hw
  have hm : w ∈ big := by first | exact List.mem_of_getElem? hi | exact List.getElem?_mem hi
  exact ⟨hm, good_of_word h1⟩
theorem goodIn_app {big a b : List Cond} (ha : GoodIn big a) (hb : GoodIn big b) : GoodIn big (a ++ b) := fun w h => (List.mem_append.mp h).elim (ha w) (hb w)
theorem goodIn_ca {big a b : List Cond} {c : Cond} (ha : GoodIn big (c :: a)) (hb : GoodIn big b) : GoodIn big (c :: (a ++ b)) := fun w h => (List.mem_cons.mp h).elim (fun e => ha w (List.mem_cons.mpr (Or.inl e))) (fun h => (List.mem_append.mp h).elim (fun h => ha w (List.mem_cons.mpr (Or.inr h))) (hb w))
theorem goodIn_sub {big ws : List Cond} (hm : ∀ w ∈ ws, w ∈ big) (h : ws.all goodWord = true) : GoodIn big ws := fun w hw => ⟨hm w hw, good_of_word (List.all_eq_true.mp h w hw)⟩
/-! ===== END ===== -/

/-! ===== BEGIN exceptions that leave a method, and their catching by the caller (launches without stack traces) ===== -/
section VXA
/-! The laws vx_back, vx_callV, vx_callS, vx_callSW, vx_throw0, vx_throwS follow proofs of the library, with one case more: JvmDerived/Free/Laws.lean (Back.of_free), Shelf42/LK1.lean (callV, callS), Shelf/KitTraced.lean (throwNew0V, throwNewS). -/
/-- where a method has thrown q: the class by its name, the cell, what was written, the world -/
def vx_T (XC : String → State → State → Prop) (st : State) (q : Addr) (t : State) (mc ms : Nat) (free : Addr → Prop) : Prop :=
  ∃ (E : String) (ce : Cell) (L : List Loc), XC E st t ∧ t.heap[q]? = some ce ∧ ce.vm = .none ∧ st.vm.findClass E = some ce.cls ∧ st.WarmedH t.vm ∧ st.sameButNew ({ t with vm := st.vm } : State) L mc ms ∧ ∀ z ∈ L, free z.base
def vx_Q (Qc : Array Value → State → Outcome → State → Prop) (XC : String → State → State → Prop) (mc ms : Nat) (free : Addr → Prop) : Array Value → State → Outcome → State → Prop := fun a st o t =>
  (Qc a st o t ∧ ∃ L, FrameEnd st o t L mc ms ∧ ∀ q ∈ L, free q.base) ∨ ∃ q, o = .threw q ∧ vx_T XC st q t mc ms free
/-- a callee that returns or throws -/
def vx_Met (l : Launch) (y : MethodName) (ws : List Cond) (rm : Room) (Pc : Array Value → State → Prop) (Qc : Array Value → State → Outcome → State → Prop) (XC : String → State → State → Prop) (mc ms : Nat) (free : Addr → Prop) : Prop :=
  MetFree l y (headSpec ws rm) Pc (fun _ _ _ _ _ => True) (vx_Q Qc XC mc ms free)
def vx_Post (XC : String → State → State → Prop) (mc ms : Nat) (free : Addr → Prop) : Pt → Array Value → Addr → Pt → Prop := fun A a q B =>
  ∃ (g : JFrame) (mk : MethodId) (t : State) (L : List Loc) (E : String) (ce : Cell), B.U.heap = t.heap ∧ B.U.vm = t.vm ∧ XC E (A.U.calling g mk a) t ∧ t.heap[q]? = some ce ∧ ce.vm = .none ∧ A.U.vm.findClass E = some ce.cls ∧ B.locs = A.locs ++ L ∧ (∀ z ∈ L, free z.base) ∧ B.cells = A.cells + mc ∧ B.slots = A.slots + ms
def vx_Back (l : Launch) (R : Room) (p : Program) (e : Env) (below : List Frame) (s : State) (sargs : Array Value) (y : MethodName) (len W9 : Nat)
    (Pre : Pt → Array Value → Prop) (Post : Pt → Array Value → Option Value → Pt → Prop) (PostX : Pt → Array Value → Addr → Pt → Prop) : Prop :=
  ∀ (m : MethodId) (meth : Method) (c : Code) (A : Pt) (g : JFrame) (ig : Instr) (mk : MethodId) (a : Array Value),
    Stand p l e R s m sargs below meth c A.U A.locs A.cells A.slots → g.method = m → g.locals.size = c.maxLocals → decode c.code g.pc = .ok (ig, len) →
    2 * g.monitorRoom + (g.stack.map fun v => v.category).sum ≤ W9 → A.U.methodNamed? y = some mk → Pre A a →
    (∃ (v : Option Value) (B : Pt), Stand p l e R s m sargs below meth c B.U B.locs B.cells B.slots ∧ Post A a v B ∧
      Steps p.tables e below (doInvoke e (A.U.setTop g) [] mk a).1 (B.U.setTop { g with pc := g.pc + len, stack := v.toList ++ g.stack })) ∨
    (∃ (q : Addr) (B : Pt), Stand p l e R s m sargs below meth c B.U B.locs B.cells B.slots ∧ PostX A a q B ∧
      Steps p.tables e below (doInvoke e (A.U.setTop g) [] mk a).1 ((B.U.setTop g).pushFrame (.throwing q)))
section Payer
variable {l : Launch} {R : Room} {p : Program} {e : Env} {below : List Frame} {s : State} {sargs : Array Value} {y : MethodName} {len W9 : Nat}
theorem vx_back {ws : List Cond} {rm : Room} {Pc : Array Value → State → Prop} {Qc : Array Value → State → Outcome → State → Prop} {XC : String → State → State → Prop} {mc ms : Nat} {free : Addr → Prop} {bytes : ByteArray} {maxL : Nat} {ret : Option FieldType}
    (hM : vx_Met l y ws rm Pc Qc XC mc ms free) (hblind : FrameBlind Pc) (hrc : rm.cells = mc) (hrs : rm.slots = ms)
    (hframes : rm.frames + 1 ≤ R.frames) (hlocals : W9 + (maxL + 11) + rm.locals ≤ R.locals)
    (hws : ∀ w ∈ ws, ∀ a' U, s.WarmedH U.vm → w.before a' U = true) (hcode : Cond.code y bytes maxL ret ∈ ws) (hinit : ∀ a' U, s.WarmedH U.vm → (Cond.initialized y.cls).before a' U = true) :
    vx_Back l R p e below s sargs y len W9 (PreOf R mc ms Pc) (PostOf Qc mc ms free) (vx_Post XC mc ms free) := by
  intro m meth c A g ig mk a X hg hsize hdg hW hn hp
  have h1 : (headSpec ws rm).pre.before a A.U = true := atoms_intro fun w hw => hws w hw _ _ X.warmed
  have h2 : (Cond.code y bytes maxL ret).before a A.U = true := hws _ hcode _ _ X.warmed
  have h3 : (Cond.initialized y.cls).before a A.U = true := hinit _ _ X.warmed
  have h4 : A.cells + (headSpec ws rm).room.cells ≤ R.cells := by rw [show (headSpec ws rm).room.cells = mc from hrc]; exact hp.1
  have h5 : A.slots + (headSpec ws rm).room.slots ≤ R.slots := by rw [show (headSpec ws rm).room.slots = ms from hrs]; exact hp.2.1
  have hPc : Pc a (A.U.calling g mk a) := hblind _ _ _ _ hp.2.2
  obtain ⟨U, Ls, c0, s0⟩ := A
  dsimp only [Pt.U, Pt.locs, Pt.cells, Pt.slots] at h1 h2 h3 h4 h5 X hn hPc ⊢
  obtain ⟨methY, cY, hmY, hcY, -, hlY, -, -, -, -⟩ := Cond.code_spec hn h2
  obtain ⟨kY, hkY, -⟩ := className_of_methodNamed hn
  have hinitY : kY.init = .initialized := Cond.initialized_spec (findClass_of_methodNamed hn) hkY h3
  have h : At U g.method c below := by rw [hg]; exact X.here
  have hlocals9 : W9 + (maxL + 11) + (headSpec ws rm).room.locals ≤ R.locals := hlocals
  have happ : (headSpec ws rm).appliesLoose y e.platform (U.calling g mk a) = true :=
    Spec.appliesLoose_calling (g := g) h hdg hn hkY hinitY
      (X.room_calling (g := g) (R' := (headSpec ws rm).room) hsize hmY hcY hframes (by rw [hlY]; omega) h4 h5) h1
  obtain ⟨mid, hmid⟩ := h.above
  have hfr : (U.setTop g).frames = (.java g :: mid) ++ below := by rw [State.frames_setTop' g h.top, hmid]; rfl
  obtain ⟨o, s₂, hsteps, -, hend, hq⟩ := Steps.callFree hM p X.admits X.cas X.clock (acts := []) hfr happ hPc trivial
  have hq' : vx_Q Qc XC mc ms free a (U.calling g mk a) o s₂ := hq
  rw [State.frames_setTop' g h.top] at hend
  obtain ⟨g₀, hg0⟩ := Option.isSome_iff_exists.mp h.top
  obtain ⟨r, hr⟩ := State.topJava?_eq_some.mp hg0
  have hr' : (({ U with heap := s₂.heap, slotsUsed := s₂.slotsUsed } : State).setVm s₂.vm).frames = .java g₀ :: r := hr
  rcases hq' with ⟨hqc, L, hfe, hL⟩ | ⟨q, rfl, E, ce, L, hx, hce, hcv, hcl, hW₂, hsm, hL⟩
  · obtain ⟨⟨v, rfl⟩, hW₂, e2, q2, q3, q4, q5, q6⟩ := id hfe
    have e3 : s₂ = ({ (U.calling g mk a).setFrames s₂.frames with heap := s₂.heap, slotsUsed := s₂.slotsUsed } : State).setVm s₂.vm := by
      have : s₂ = ({ s₂ with vm := (U.calling g mk a).vm } : State).setVm s₂.vm := rfl
      rw [e2] at this
      exact this
    obtain ⟨c₂, i₂, len₂, hc₂, hd₂, hf₂⟩ := hend
    have hW' : U.WarmedH s₂.vm := hW₂
    have hcc : c₂ = c := by
      have h1 : s₂.code? g.method = U.code? g.method := by
        rw [State.code?_eq, State.code?_eq, hW'.alike.method?]
      exact Option.some.inj (hc₂.symm.trans (h1.trans h.code))
    subst hcc
    have hlen : len₂ = len := by rw [hdg] at hd₂; cases hd₂; rfl
    subst hlen
    have hs₂ : s₂ = (({ U with heap := s₂.heap, slotsUsed := s₂.slotsUsed } : State).setVm s₂.vm).setTop { g with pc := g.pc + len₂, stack := v.toList ++ g.stack } := by
      refine e3.trans ?_
      rw [hf₂, State.calling_eq h.top, State.setFrames_setFrames, State.setTop_of_frames _ hr', hr]
      rfl
    have hsame : U.sameButNew ({ U with heap := s₂.heap, slotsUsed := s₂.slotsUsed } : State) L mc ms := by
      refine ⟨?_, q2, q3, q4, q5, q6⟩
      obtain ⟨t, ht, -⟩ := State.frames_cons hr
      show ({ U with heap := s₂.heap, slotsUsed := s₂.slotsUsed } : State) = { U.setFrames U.frames with heap := s₂.heap, slotsUsed := s₂.slotsUsed }
      rw [State.setFrames_self ht]
    subst hg
    refine Or.inl ⟨v, ⟨(({ U with heap := s₂.heap, slotsUsed := s₂.slotsUsed } : State).setVm s₂.vm), Ls ++ L, c0 + mc, s0 + ms⟩,
      ⟨X.admits, X.cas, X.clock, X.frames, X.room, X.hears, X.method, X.code, (X.here.setHeapUsed s₂.heap s₂.slotsUsed).setVm hW'.alike, X.tail, State.WarmedH.trans X.warmed hW', X.limits, X.bytes, X.same.trans (hsame.setVm s.vm)⟩,
      ⟨g, mk, s₂, L, rfl, rfl, hqc, rfl, hL, rfl, rfl⟩, ?_⟩
    show Steps p.tables e below _ ((({ U with heap := s₂.heap, slotsUsed := s₂.slotsUsed } : State).setVm s₂.vm).setTop { g with pc := g.pc + len₂, stack := v.toList ++ g.stack })
    rw [← hs₂]
    exact hsteps
  · obtain ⟨e2, q2, q3, q4, q5, q6⟩ := id hsm
    have e3 : s₂ = ({ (U.calling g mk a).setFrames s₂.frames with heap := s₂.heap, slotsUsed := s₂.slotsUsed } : State).setVm s₂.vm := by
      have : s₂ = ({ s₂ with vm := (U.calling g mk a).vm } : State).setVm s₂.vm := rfl
      rw [e2] at this
      exact this
    have hf₂ : s₂.frames = .throwing q :: .java g :: U.frames.tail := hend
    have hW' : U.WarmedH s₂.vm := hW₂
    have hs₂ : s₂ = ((({ U with heap := s₂.heap, slotsUsed := s₂.slotsUsed } : State).setVm s₂.vm).setTop g).pushFrame (.throwing q) := by
      refine e3.trans ?_
      rw [hf₂, State.calling_eq h.top, State.setFrames_setFrames, State.pushFrame, State.frames_setTop _ hr', State.setTop_of_frames _ hr', State.setFrames_setFrames, hr]
      rfl
    have hsame : U.sameButNew ({ U with heap := s₂.heap, slotsUsed := s₂.slotsUsed } : State) L mc ms := by
      refine ⟨?_, q2, q3, q4, q5, q6⟩
      obtain ⟨t, ht, -⟩ := State.frames_cons hr
      show ({ U with heap := s₂.heap, slotsUsed := s₂.slotsUsed } : State) = { U.setFrames U.frames with heap := s₂.heap, slotsUsed := s₂.slotsUsed }
      rw [State.setFrames_self ht]
    subst hg
    refine Or.inr ⟨q, ⟨(({ U with heap := s₂.heap, slotsUsed := s₂.slotsUsed } : State).setVm s₂.vm), Ls ++ L, c0 + mc, s0 + ms⟩,
      ⟨X.admits, X.cas, X.clock, X.frames, X.room, X.hears, X.method, X.code, (X.here.setHeapUsed s₂.heap s₂.slotsUsed).setVm hW'.alike, X.tail, State.WarmedH.trans X.warmed hW', X.limits, X.bytes, X.same.trans (hsame.setVm s.vm)⟩,
      ⟨g, mk, s₂, L, E, ce, rfl, rfl, hx, hce, hcv, hcl, rfl, hL, rfl, rfl⟩, ?_⟩
    show Steps p.tables e below _ (((({ U with heap := s₂.heap, slotsUsed := s₂.slotsUsed } : State).setVm s₂.vm).setTop g).pushFrame (.throwing q))
    rw [← hs₂]
    exact hsteps
end Payer
section Calls
variable {p : Program} {l : Launch} {e : Env} {R : Room} {s : State} {m : MethodId} {args : Array Value} {below : List Frame} {meth : Method} {c : Code} {T : State} {locs : List Loc} {cells slots : Nat}
theorem vx_callV (X : Stand p l e R s m args below meth c T locs cells slots) (hexec : p.tables.exec = Jvm.exec) {own C : String} {index : Nat} {y : MethodName} {bytes : ByteArray} {maxL : Nat} {ret : Option FieldType}
    (hown : s.vm.findClass own = some m.cls) (hlink : (Cond.methodLink own index y).before args s = true) (hinst : (Cond.instanceMethod y).before args s = true) (hsel : (Cond.selects C y y).before args s = true)
    (hcode : (Cond.code y bytes maxL ret).before args s = true) (hy : y.cls ≠ "java/lang/invoke/MethodHandle" ∧ y.cls ≠ "java/lang/invoke/VarHandle")
    {W9 : Nat} {Pre : Pt → Array Value → Prop} {Post : Pt → Array Value → Option Value → Pt → Prop} {PostX : Pt → Array Value → Addr → Pt → Prop} (hK : vx_Back l R p e below s args y 3 W9 Pre Post PostX)
    {b : Addr} {cellB : Cell} (hcell : T.heap[b]? = some cellB) (hobj : cellB.vm.isStatics = false) (hcls : s.vm.findClass C = some cellB.cls)
    {g : JFrame} (hg : g.method = m) (hsize : g.locals.size = c.maxLocals) {argsL rest : List Value} (hlen : ∀ sig, parseMethodDescriptor y.desc = some sig → argsL.length = sig.parameters.length)
    (hstack : g.stack = argsL.reverse ++ .ref b :: rest) (hW : 2 * g.monitorRoom + (rest.map fun v => v.category).sum ≤ W9) (hdg : decode c.code g.pc = .ok (.invokevirtual index, 3))
    (hpre : ∀ vm₁, s.WarmedH vm₁ → Pre ⟨T.setVm vm₁, locs, cells, slots⟩ (Value.ref b :: argsL).toArray) :
    (∃ (v : Option Value) (vm₁ : Vm) (B : Pt), s.WarmedH vm₁ ∧ Stand p l e R s m args below meth c B.U B.locs B.cells B.slots ∧ Post ⟨T.setVm vm₁, locs, cells, slots⟩ (Value.ref b :: argsL).toArray v B ∧
      ∀ target, Steps p.tables e below (B.U.setTop { g with pc := g.pc + 3, stack := v.toList ++ rest }) target → Steps p.tables e below (T.setTop g) target) ∨
    (∃ (q : Addr) (vm₁ : Vm) (B : Pt), s.WarmedH vm₁ ∧ Stand p l e R s m args below meth c B.U B.locs B.cells B.slots ∧ PostX ⟨T.setVm vm₁, locs, cells, slots⟩ (Value.ref b :: argsL).toArray q B ∧
      Steps p.tables e below (T.setTop g) ((B.U.setTop { g with stack := rest }).pushFrame (.throwing q))) := by
  obtain ⟨mk, methM, hnamed, hmethM, hstM, habM⟩ := Cond.instanceMethod_spec hinst
  obtain ⟨methM', cM, hmethM', -, -, -, -, -, -, hsigM⟩ := Cond.code_spec hnamed hcode
  cases hmethM.symm.trans hmethM'
  obtain ⟨c2, r2, m2, q1, q2, q3, q4, kP, hkP, hkPi⟩ := Cond.selects_spec hsel
  cases hcls.symm.trans q1
  cases (State.methodFound?_of_named hnamed hy).symm.trans q2
  cases hnamed.symm.trans q3
  have hselP : selectMethod e.platform s.vm cellB.cls mk = .method mk := by rw [Launch.admits_selectMethod X.admits]; exact q4
  obtain ⟨vm₁, X₁, hstep₁⟩ := X.invokevirtual hexec hown hlink hnamed hmethM hstM hkP hkPi hy (a := b) (cell := cellB) hcell
    (fun z h => by rw [h] at hobj; cases hobj) hselP hmethM habM hkP hkPi (g := g) hg (argsL := argsL) (rest := rest) (hlen _ hsigM) hstack hdg
  rcases hK m meth c ⟨T.setVm vm₁, locs, cells, slots⟩ { g with stack := rest } (.invokevirtual index) mk (Value.ref b :: argsL).toArray X₁ hg hsize hdg hW (X₁.named hnamed) (hpre vm₁ X₁.warmed) with ⟨v, B, X', hpost, hsteps⟩ | ⟨q, B, X', hpost, hsteps⟩
  · exact Or.inl ⟨v, vm₁, B, X₁.warmed, X', hpost, fun target h => hstep₁ _ fun acts => by rw [doInvoke_state]; exact hsteps.trans h⟩
  · exact Or.inr ⟨q, vm₁, B, X₁.warmed, X', hpost, hstep₁ _ fun acts => by rw [doInvoke_state]; exact hsteps⟩
theorem vx_callS (X : Stand p l e R s m args below meth c T locs cells slots) (hexec : p.tables.exec = Jvm.exec) {own : String} {index : Nat} {y : MethodName} {bytes : ByteArray} {maxL : Nat} {ret : Option FieldType}
    (hown : s.vm.findClass own = some m.cls) (hlink : (Cond.methodLink own index y).before args s = true) (hstat : (Cond.static y).before args s = true) (hinit : (Cond.initialized y.cls).before args s = true)
    (hcode : (Cond.code y bytes maxL ret).before args s = true) (hy : y.cls ≠ "java/lang/invoke/MethodHandle" ∧ y.cls ≠ "java/lang/invoke/VarHandle")
    {W9 : Nat} {Pre : Pt → Array Value → Prop} {Post : Pt → Array Value → Option Value → Pt → Prop} {PostX : Pt → Array Value → Addr → Pt → Prop} (hK : vx_Back l R p e below s args y 3 W9 Pre Post PostX)
    {g : JFrame} (hg : g.method = m) (hsize : g.locals.size = c.maxLocals) {argsL rest : List Value} (hlen : ∀ sig, parseMethodDescriptor y.desc = some sig → argsL.length = sig.parameters.length)
    (hstack : g.stack = argsL.reverse ++ rest) (hW : 2 * g.monitorRoom + (rest.map fun v => v.category).sum ≤ W9) (hdg : decode c.code g.pc = .ok (.invokestatic index, 3))
    (hpre : ∀ vm₁, s.WarmedH vm₁ → Pre ⟨T.setVm vm₁, locs, cells, slots⟩ argsL.toArray) :
    (∃ (v : Option Value) (vm₁ : Vm) (B : Pt), s.WarmedH vm₁ ∧ Stand p l e R s m args below meth c B.U B.locs B.cells B.slots ∧ Post ⟨T.setVm vm₁, locs, cells, slots⟩ argsL.toArray v B ∧
      ∀ target, Steps p.tables e below (B.U.setTop { g with pc := g.pc + 3, stack := v.toList ++ rest }) target → Steps p.tables e below (T.setTop g) target) ∨
    (∃ (q : Addr) (vm₁ : Vm) (B : Pt), s.WarmedH vm₁ ∧ Stand p l e R s m args below meth c B.U B.locs B.cells B.slots ∧ PostX ⟨T.setVm vm₁, locs, cells, slots⟩ argsL.toArray q B ∧
      Steps p.tables e below (T.setTop g) ((B.U.setTop { g with stack := rest }).pushFrame (.throwing q))) := by
  obtain ⟨mk, hnamed⟩ := Cond.code_named hcode
  obtain ⟨methM, cM, hmethM, -, -, -, -, -, -, hsigM⟩ := Cond.code_spec hnamed hcode
  have hstatic : methM.isStatic = true := Cond.static_spec hnamed hmethM hstat
  obtain ⟨kP, hkP, -⟩ := className_of_methodNamed hnamed
  have hinitP : kP.init = .initialized := Cond.initialized_spec (findClass_of_methodNamed hnamed) hkP hinit
  obtain ⟨vm₁, X₁, hstep₁⟩ := X.invokestatic hexec hown hlink hnamed hmethM hstatic hkP hinitP hy (g := g) hg (argsL := argsL) (rest := rest) (hlen _ hsigM) hstack hdg
  rcases hK m meth c ⟨T.setVm vm₁, locs, cells, slots⟩ { g with stack := rest } (.invokestatic index) mk argsL.toArray X₁ hg hsize hdg hW (X₁.named hnamed) (hpre vm₁ X₁.warmed) with ⟨v, B, X', hpost, hsteps⟩ | ⟨q, B, X', hpost, hsteps⟩
  · exact Or.inl ⟨v, vm₁, B, X₁.warmed, X', hpost, fun target h => hstep₁ _ fun acts => by rw [doInvoke_state]; exact hsteps.trans h⟩
  · exact Or.inr ⟨q, vm₁, B, X₁.warmed, X', hpost, hstep₁ _ fun acts => by rw [doInvoke_state]; exact hsteps⟩
end Calls
theorem vx_cls {s : State} {T : State} {vm₁ : Vm} {E : String} {k : ClassId} (hW : s.WarmedH vm₁) (h : (T.setVm vm₁).vm.findClass E = some k) : s.vm.findClass E = some k := by
  have h1 : vm₁.findClass E = some k := h
  rw [hW.alike.findClass] at h1
  exact h1
/-- the method's frame g, with q thrown over it -/
def vx_W (p : Program) (l : Launch) (e : Env) (R : Room) (s : State) (m : MethodId) (args : Array Value) (below : List Frame) (meth : Method) (c : Code) (H : Heap) (locs : List Loc) (cells slots : Nat) (Q : State → Prop) (g : JFrame) (q : Addr) : Prop :=
  ∀ T : State, T.heap = H → Stand p l e R s m args below meth c T locs cells slots → ∃ t, Steps p.tables e below ((T.setTop g).pushFrame (.throwing q)) t ∧ Q t
def vx_Run (p : Program) (l : Launch) (e : Env) (R : Room) (s : State) (m : MethodId) (args : Array Value) (below : List Frame) (meth : Method) (c : Code) (H : Heap) (locs : List Loc) (cells slots mc ms : Nat) (g : JFrame) (rest : List Value) (Qa : State → Outcome → State → Prop) (XC : String → State → State → Prop) (free : Addr → Prop) : Prop :=
  ∀ T : State, T.heap = H → Stand p l e R s m args below meth c T locs cells slots →
    (∃ (v : Option Value) (st₀ t T' : State) (L : List Loc), st₀.heap = H ∧ Stand p l e R s m args below meth c T' (locs ++ L) (cells + mc) (slots + ms) ∧ (∀ q ∈ L, free q.base) ∧ T'.heap = t.heap ∧ T'.vm = t.vm ∧ Qa st₀ (.returned v) t ∧
      Goes p e below T g T' { g with pc := g.pc + 3, stack := v.toList ++ rest }) ∨
    (∃ (q : Addr) (st₀ t T' : State) (L : List Loc) (E : String) (ce : Cell), st₀.heap = H ∧ Stand p l e R s m args below meth c T' (locs ++ L) (cells + mc) (slots + ms) ∧ (∀ z ∈ L, free z.base) ∧ T'.heap = t.heap ∧ T'.vm = t.vm ∧ XC E st₀ t ∧ t.heap[q]? = some ce ∧ ce.vm = .none ∧ s.vm.findClass E = some ce.cls ∧
      Steps p.tables e below (T.setTop g) ((T'.setTop { g with stack := rest }).pushFrame (.throwing q)))
def vx_X {S : Type} (px : S → Prop) (B : String → S → State → Prop) (A : Nat → Prop) : String → State → State → Prop := fun E st t => ∃ u : S, px u ∧ B E u t ∧ va_F A st t
section Runs
variable {p : Program} {l : Launch} {e : Env} {R : Room} {s : State} {m : MethodId} {args : Array Value} {below : List Frame} {meth : Method} {c : Code} {H : Heap} {locs : List Loc} {cells slots : Nat}
variable {y : MethodName} {bytes cc : ByteArray} {maxL nL mc ms n index : Nat} {ret : Option FieldType} {ws : List Cond} {rm : Room} {Pc : Array Value → State → Prop} {Qc : Array Value → State → Outcome → State → Prop} {XC : String → State → State → Prop} {free : Addr → Prop} {Ts : List Cond} {own C : String} {b : Addr} {As rest : List Value} {g : JFrame}
theorem vx_callBack (cb : CallB R s args own index y bytes maxL ret ws rm mc ms n) (hM : vx_Met l y ws rm Pc Qc XC mc ms free) (hbl : FrameBlind Pc) : vx_Back l R p e below s args y 3 8 (PreOf R mc ms Pc) (PostOf Qc mc ms free) (vx_Post XC mc ms free) := by
  obtain ⟨hrc, hrs, hfr, hlo, hws, hcw, -, hini, -⟩ := cb
  exact vx_back (bytes := bytes) (maxL := maxL) (ret := ret) hM hbl hrc hrs hfr hlo hws hcw (fun a' U hW => word_at hW (Or.inl (by first | rfl | simp [Cond.onTables, Cond.keeps, Cond.steady])) hini)
theorem vx_runV (S : CallFix p m c cc nL s args Ts own) (hM : vx_Met l y ws rm Pc Qc XC mc ms free) (cw : CallW R s args own C index y bytes maxL ret ws rm mc ms n) (hp : PreV s H C b Pc As)
    (hg : g.method = m) (hn : As.length = n) (hsize : g.locals.size = nL) (hstack : g.stack = As.reverse ++ .ref b :: rest) (hW : 2 * g.monitorRoom + (rest.map fun v => v.category).sum ≤ 8) (hdg : decode cc g.pc = .ok (.invokevirtual index, 3)) (hf : cells + mc ≤ R.cells ∧ slots + ms ≤ R.slots) :
    vx_Run p l e R s m args below meth c H locs cells slots mc ms g rest (Qc (Value.ref b :: As).toArray) XC free := by
  have hK : vx_Back l R p e below s args y 3 8 (PreOf R mc ms Pc) (PostOf Qc mc ms free) (vx_Post XC mc ms free) := vx_callBack cw.1 hM hp.1
  obtain ⟨⟨-, -, -, -, -, -, hcode, -, hy, hlen, hl⟩, hin, hse⟩ := cw
  obtain ⟨hx, hb, hml, ho, -⟩ := S
  obtain ⟨-, ⟨cellB, hcB, hoB, hclB⟩, hPc⟩ := hp
  intro T hT X
  rcases vx_callV X hx (C := C) (bytes := bytes) (maxL := maxL) (ret := ret) ho hl hin hse hcode hy hK (by rw [hT]; exact hcB) hoB hclB hg (hsize.trans hml.symm) (argsL := As) (rest := rest) (fun sig h => hn.trans (hlen sig h)) hstack hW (by rw [hb]; exact hdg)
    (fun vm₁ hW₁ => ⟨hf.1, hf.2, hPc (T.setVm vm₁) hT hW₁⟩) with ⟨v, vm₁, ⟨U', l2, c2, s2⟩, hW₁, X', ⟨g', mk, t, L, e1, e2, hq, h1, hL, h2, h3⟩, st⟩ | ⟨q, vm₁, ⟨U', l2, c2, s2⟩, hW₁, X', ⟨g', mk, t, L, E, ce, e1, e2, hq, hce, hcv, hcl, h1, hL, h2, h3⟩, st⟩
  · dsimp only [Pt.U, Pt.locs, Pt.cells, Pt.slots] at X' e1 e2 h1 h2 h3 st
    subst h1; subst h2; subst h3
    exact Or.inl ⟨v, (T.setVm vm₁).calling g' mk (Value.ref b :: As).toArray, t, U', L, hT, X', hL, e1, e2, hq, st⟩
  · dsimp only [Pt.U, Pt.locs, Pt.cells, Pt.slots] at X' e1 e2 h1 h2 h3 st hcl
    subst h1; subst h2; subst h3
    exact Or.inr ⟨q, (T.setVm vm₁).calling g' mk (Value.ref b :: As).toArray, t, U', L, E, ce, hT, X', hL, e1, e2, hq, hce, hcv, vx_cls hW₁ hcl, st⟩
theorem vx_runS (S : CallFix p m c cc nL s args Ts own) (hM : vx_Met l y ws rm Pc Qc XC mc ms free) (cw : CallB R s args own index y bytes maxL ret ws rm mc ms n ∧ (Cond.static y).before args s = true) (hp : PreS s H Pc As)
    (hg : g.method = m) (hn : As.length = n) (hsize : g.locals.size = nL) (hstack : g.stack = As.reverse ++ rest) (hW : 2 * g.monitorRoom + (rest.map fun v => v.category).sum ≤ 8) (hdg : decode cc g.pc = .ok (.invokestatic index, 3)) (hf : cells + mc ≤ R.cells ∧ slots + ms ≤ R.slots) :
    vx_Run p l e R s m args below meth c H locs cells slots mc ms g rest (Qc As.toArray) XC free := by
  have hK : vx_Back l R p e below s args y 3 8 (PreOf R mc ms Pc) (PostOf Qc mc ms free) (vx_Post XC mc ms free) := vx_callBack cw.1 hM hp.1
  obtain ⟨⟨-, -, -, -, -, -, hcode, hini, hy, hlen, hl⟩, hstt⟩ := cw
  obtain ⟨hx, hb, hml, ho, -⟩ := S
  intro T hT X
  rcases vx_callS X hx (bytes := bytes) (maxL := maxL) (ret := ret) ho hl hstt hini hcode hy hK hg (hsize.trans hml.symm) (argsL := As) (rest := rest) (fun sig h => hn.trans (hlen sig h)) hstack hW (by rw [hb]; exact hdg)
    (fun vm₁ hW₁ => ⟨hf.1, hf.2, hp.2 (T.setVm vm₁) hT hW₁⟩) with ⟨v, vm₁, ⟨U', l2, c2, s2⟩, hW₁, X', ⟨g', mk, t, L, e1, e2, hq, h1, hL, h2, h3⟩, st⟩ | ⟨q, vm₁, ⟨U', l2, c2, s2⟩, hW₁, X', ⟨g', mk, t, L, E, ce, e1, e2, hq, hce, hcv, hcl, h1, hL, h2, h3⟩, st⟩
  · dsimp only [Pt.U, Pt.locs, Pt.cells, Pt.slots] at X' e1 e2 h1 h2 h3 st
    subst h1; subst h2; subst h3
    exact Or.inl ⟨v, (T.setVm vm₁).calling g' mk As.toArray, t, U', L, hT, X', hL, e1, e2, hq, st⟩
  · dsimp only [Pt.U, Pt.locs, Pt.cells, Pt.slots] at X' e1 e2 h1 h2 h3 st hcl
    subst h1; subst h2; subst h3
    exact Or.inr ⟨q, (T.setVm vm₁).calling g' mk As.toArray, t, U', L, E, ce, hT, X', hL, e1, e2, hq, hce, hcv, vx_cls hW₁ hcl, st⟩
end Runs
section Rows
variable {p : Program} {l : Launch} {e : Env} {R : Room} {s : State} {m : MethodId} {args : Array Value} {below : List Frame} {meth : Method} {c : Code} {H : Heap} {locs : List Loc} {cells slots : Nat} {Q : State → Prop}
variable {mc ms : Nat} {free : Addr → Prop} {A0 A1 : Nat → Prop} {H0 : Heap} {a : Array Value} {pc : Nat} {ls : Array Slot} {st0 rest : List Value}
theorem vx_keep {st₀ t T' : State} {L : List Loc} (h0 : st₀.heap = H) (e1 : T'.heap = t.heap) (hS : va_S A0 H0 H locs) (hA : ∀ q, q < H.size → A1 q → A0 q) (hf : ∀ q, free q → A0 q) (hL : ∀ q ∈ L, free q.base) (hF : va_F A1 st₀ t) :
    H.size ≤ T'.heap.size ∧ (∀ q : Nat, q < H.size → ¬ A1 q → T'.heap[q]? = H[q]?) ∧ va_S A0 H0 T'.heap (locs ++ L) := by
  obtain ⟨hz, hk⟩ := hF
  rw [h0] at hz hk
  exact ⟨by rw [e1]; exact hz, fun q h1 h2 => by rw [e1]; exact hk q h1 h2,
    ⟨Nat.le_trans hS.1 (by rw [e1]; exact hz), fun q h1 h2 => by rw [e1, hk q (Nat.lt_of_lt_of_le h1 hS.1) (fun z => h2 (hA q (Nat.lt_of_lt_of_le h1 hS.1) z))]; exact hS.2.1 q h1 h2, fun q hq => by
      rcases List.mem_append.mp hq with h | h
      · exact hS.2.2 q h
      · exact hf _ (hL q h)⟩⟩
theorem vx_calli {S SX : Type} {post : Int32 → S → Prop} {px : SX → Prop} {B : S → State → Prop} {BX : String → SX → State → Prop} {AX : Nat → Prop} (hr : vx_Run p l e R s m args below meth c H locs cells slots mc ms (F0 m pc ls st0) rest (va_Qi post B A1 a) (vx_X px BX AX) free) (hS : va_S A0 H0 H locs) (hA : ∀ q, q < H.size → A1 q → A0 q) (hf : ∀ q, free q → A0 q) (hAX : ∀ q, q < H.size → AX q → A0 q)
    (kx : ∀ (E : String) (ce : Cell) (q9 : Addr) (u : SX) (t : State) (H1 : Heap) (locs1 : List Loc), t.heap = H1 → s.vm.Alike t.vm → px u → BX E u t → H.size ≤ H1.size → (∀ q : Nat, q < H.size → ¬ AX q → H1[q]? = H[q]?) → va_S A0 H0 H1 locs1 → H1[q9]? = some ce → ce.vm = .none → s.vm.findClass E = some ce.cls → vx_W p l e R s m args below meth c H1 locs1 (cells + mc) (slots + ms) Q (F0 m pc ls rest) q9)
    (kk : ∀ (r : Int32) (u : S) (t : State) (H1 : Heap) (locs1 : List Loc), t.heap = H1 → s.vm.Alike t.vm → post r u → B u t → H.size ≤ H1.size → (∀ q : Nat, q < H.size → ¬ A1 q → H1[q]? = H[q]?) → va_S A0 H0 H1 locs1 → W p l e R s m args below meth c H1 locs1 (cells + mc) (slots + ms) Q (F0 m (pc + 3) ls (.int r :: rest))) : W p l e R s m args below meth c H locs cells slots Q (F0 m pc ls st0) := by
  intro T hT X
  rcases hr T hT X with ⟨v, st₀, t, T', L, h0, X', hL, e1, e2, ⟨⟨r, u, hv, hp, hb⟩, hF⟩, st⟩ | ⟨q, st₀, t, T', L, E, ce, h0, X', hL, e1, e2, ⟨u, hp, hb, hF⟩, hce, hcv, hcl, st⟩
  · cases hv
    obtain ⟨k1, k2, k3⟩ := vx_keep h0 e1 hS hA hf hL hF
    obtain ⟨t2, a1, b1⟩ := kk r u t T'.heap (locs ++ L) e1.symm (by rw [← e2]; exact X'.warmed.alike) hp hb k1 k2 k3 T' rfl X'
    exact ⟨t2, st t2 a1, b1⟩
  · obtain ⟨k1, k2, k3⟩ := vx_keep h0 e1 hS hAX hf hL hF
    obtain ⟨t2, a1, b1⟩ := kx E ce q u t T'.heap (locs ++ L) e1.symm (by rw [← e2]; exact X'.warmed.alike) hp hb k1 k2 k3 (by rw [e1]; exact hce) hcv hcl T' rfl X'
    exact ⟨t2, st.trans a1, b1⟩
theorem vx_calll {S SX : Type} {post : Int64 → S → Prop} {px : SX → Prop} {B : S → State → Prop} {BX : String → SX → State → Prop} {AX : Nat → Prop} (hr : vx_Run p l e R s m args below meth c H locs cells slots mc ms (F0 m pc ls st0) rest (va_Ql post B A1 a) (vx_X px BX AX) free) (hS : va_S A0 H0 H locs) (hA : ∀ q, q < H.size → A1 q → A0 q) (hf : ∀ q, free q → A0 q) (hAX : ∀ q, q < H.size → AX q → A0 q)
    (kx : ∀ (E : String) (ce : Cell) (q9 : Addr) (u : SX) (t : State) (H1 : Heap) (locs1 : List Loc), t.heap = H1 → s.vm.Alike t.vm → px u → BX E u t → H.size ≤ H1.size → (∀ q : Nat, q < H.size → ¬ AX q → H1[q]? = H[q]?) → va_S A0 H0 H1 locs1 → H1[q9]? = some ce → ce.vm = .none → s.vm.findClass E = some ce.cls → vx_W p l e R s m args below meth c H1 locs1 (cells + mc) (slots + ms) Q (F0 m pc ls rest) q9)
    (kk : ∀ (r : Int64) (u : S) (t : State) (H1 : Heap) (locs1 : List Loc), t.heap = H1 → s.vm.Alike t.vm → post r u → B u t → H.size ≤ H1.size → (∀ q : Nat, q < H.size → ¬ A1 q → H1[q]? = H[q]?) → va_S A0 H0 H1 locs1 → W p l e R s m args below meth c H1 locs1 (cells + mc) (slots + ms) Q (F0 m (pc + 3) ls (.long r :: rest))) : W p l e R s m args below meth c H locs cells slots Q (F0 m pc ls st0) := by
  intro T hT X
  rcases hr T hT X with ⟨v, st₀, t, T', L, h0, X', hL, e1, e2, ⟨⟨r, u, hv, hp, hb⟩, hF⟩, st⟩ | ⟨q, st₀, t, T', L, E, ce, h0, X', hL, e1, e2, ⟨u, hp, hb, hF⟩, hce, hcv, hcl, st⟩
  · cases hv
    obtain ⟨k1, k2, k3⟩ := vx_keep h0 e1 hS hA hf hL hF
    obtain ⟨t2, a1, b1⟩ := kk r u t T'.heap (locs ++ L) e1.symm (by rw [← e2]; exact X'.warmed.alike) hp hb k1 k2 k3 T' rfl X'
    exact ⟨t2, st t2 a1, b1⟩
  · obtain ⟨k1, k2, k3⟩ := vx_keep h0 e1 hS hAX hf hL hF
    obtain ⟨t2, a1, b1⟩ := kx E ce q u t T'.heap (locs ++ L) e1.symm (by rw [← e2]; exact X'.warmed.alike) hp hb k1 k2 k3 (by rw [e1]; exact hce) hcv hcl T' rfl X'
    exact ⟨t2, st.trans a1, b1⟩
theorem vx_callf {S SX : Type} {post : UInt32 → S → Prop} {px : SX → Prop} {B : S → State → Prop} {BX : String → SX → State → Prop} {AX : Nat → Prop} (hr : vx_Run p l e R s m args below meth c H locs cells slots mc ms (F0 m pc ls st0) rest (va_Qf post B A1 a) (vx_X px BX AX) free) (hS : va_S A0 H0 H locs) (hA : ∀ q, q < H.size → A1 q → A0 q) (hf : ∀ q, free q → A0 q) (hAX : ∀ q, q < H.size → AX q → A0 q)
    (kx : ∀ (E : String) (ce : Cell) (q9 : Addr) (u : SX) (t : State) (H1 : Heap) (locs1 : List Loc), t.heap = H1 → s.vm.Alike t.vm → px u → BX E u t → H.size ≤ H1.size → (∀ q : Nat, q < H.size → ¬ AX q → H1[q]? = H[q]?) → va_S A0 H0 H1 locs1 → H1[q9]? = some ce → ce.vm = .none → s.vm.findClass E = some ce.cls → vx_W p l e R s m args below meth c H1 locs1 (cells + mc) (slots + ms) Q (F0 m pc ls rest) q9)
    (kk : ∀ (r : UInt32) (u : S) (t : State) (H1 : Heap) (locs1 : List Loc), t.heap = H1 → s.vm.Alike t.vm → post r u → B u t → H.size ≤ H1.size → (∀ q : Nat, q < H.size → ¬ A1 q → H1[q]? = H[q]?) → va_S A0 H0 H1 locs1 → W p l e R s m args below meth c H1 locs1 (cells + mc) (slots + ms) Q (F0 m (pc + 3) ls (.float r :: rest))) : W p l e R s m args below meth c H locs cells slots Q (F0 m pc ls st0) := by
  intro T hT X
  rcases hr T hT X with ⟨v, st₀, t, T', L, h0, X', hL, e1, e2, ⟨⟨r, u, hv, hp, hb⟩, hF⟩, st⟩ | ⟨q, st₀, t, T', L, E, ce, h0, X', hL, e1, e2, ⟨u, hp, hb, hF⟩, hce, hcv, hcl, st⟩
  · cases hv
    obtain ⟨k1, k2, k3⟩ := vx_keep h0 e1 hS hA hf hL hF
    obtain ⟨t2, a1, b1⟩ := kk r u t T'.heap (locs ++ L) e1.symm (by rw [← e2]; exact X'.warmed.alike) hp hb k1 k2 k3 T' rfl X'
    exact ⟨t2, st t2 a1, b1⟩
  · obtain ⟨k1, k2, k3⟩ := vx_keep h0 e1 hS hAX hf hL hF
    obtain ⟨t2, a1, b1⟩ := kx E ce q u t T'.heap (locs ++ L) e1.symm (by rw [← e2]; exact X'.warmed.alike) hp hb k1 k2 k3 (by rw [e1]; exact hce) hcv hcl T' rfl X'
    exact ⟨t2, st.trans a1, b1⟩
theorem vx_calld {S SX : Type} {post : UInt64 → S → Prop} {px : SX → Prop} {B : S → State → Prop} {BX : String → SX → State → Prop} {AX : Nat → Prop} (hr : vx_Run p l e R s m args below meth c H locs cells slots mc ms (F0 m pc ls st0) rest (va_Qd post B A1 a) (vx_X px BX AX) free) (hS : va_S A0 H0 H locs) (hA : ∀ q, q < H.size → A1 q → A0 q) (hf : ∀ q, free q → A0 q) (hAX : ∀ q, q < H.size → AX q → A0 q)
    (kx : ∀ (E : String) (ce : Cell) (q9 : Addr) (u : SX) (t : State) (H1 : Heap) (locs1 : List Loc), t.heap = H1 → s.vm.Alike t.vm → px u → BX E u t → H.size ≤ H1.size → (∀ q : Nat, q < H.size → ¬ AX q → H1[q]? = H[q]?) → va_S A0 H0 H1 locs1 → H1[q9]? = some ce → ce.vm = .none → s.vm.findClass E = some ce.cls → vx_W p l e R s m args below meth c H1 locs1 (cells + mc) (slots + ms) Q (F0 m pc ls rest) q9)
    (kk : ∀ (r : UInt64) (u : S) (t : State) (H1 : Heap) (locs1 : List Loc), t.heap = H1 → s.vm.Alike t.vm → post r u → B u t → H.size ≤ H1.size → (∀ q : Nat, q < H.size → ¬ A1 q → H1[q]? = H[q]?) → va_S A0 H0 H1 locs1 → W p l e R s m args below meth c H1 locs1 (cells + mc) (slots + ms) Q (F0 m (pc + 3) ls (.double r :: rest))) : W p l e R s m args below meth c H locs cells slots Q (F0 m pc ls st0) := by
  intro T hT X
  rcases hr T hT X with ⟨v, st₀, t, T', L, h0, X', hL, e1, e2, ⟨⟨r, u, hv, hp, hb⟩, hF⟩, st⟩ | ⟨q, st₀, t, T', L, E, ce, h0, X', hL, e1, e2, ⟨u, hp, hb, hF⟩, hce, hcv, hcl, st⟩
  · cases hv
    obtain ⟨k1, k2, k3⟩ := vx_keep h0 e1 hS hA hf hL hF
    obtain ⟨t2, a1, b1⟩ := kk r u t T'.heap (locs ++ L) e1.symm (by rw [← e2]; exact X'.warmed.alike) hp hb k1 k2 k3 T' rfl X'
    exact ⟨t2, st t2 a1, b1⟩
  · obtain ⟨k1, k2, k3⟩ := vx_keep h0 e1 hS hAX hf hL hF
    obtain ⟨t2, a1, b1⟩ := kx E ce q u t T'.heap (locs ++ L) e1.symm (by rw [← e2]; exact X'.warmed.alike) hp hb k1 k2 k3 (by rw [e1]; exact hce) hcv hcl T' rfl X'
    exact ⟨t2, st.trans a1, b1⟩
theorem vx_callv {S SX : Type} {post : S → Prop} {px : SX → Prop} {B : S → State → Prop} {BX : String → SX → State → Prop} {AX : Nat → Prop} (hr : vx_Run p l e R s m args below meth c H locs cells slots mc ms (F0 m pc ls st0) rest (va_Qv post B A1 a) (vx_X px BX AX) free) (hS : va_S A0 H0 H locs) (hA : ∀ q, q < H.size → A1 q → A0 q) (hf : ∀ q, free q → A0 q) (hAX : ∀ q, q < H.size → AX q → A0 q)
    (kx : ∀ (E : String) (ce : Cell) (q9 : Addr) (u : SX) (t : State) (H1 : Heap) (locs1 : List Loc), t.heap = H1 → s.vm.Alike t.vm → px u → BX E u t → H.size ≤ H1.size → (∀ q : Nat, q < H.size → ¬ AX q → H1[q]? = H[q]?) → va_S A0 H0 H1 locs1 → H1[q9]? = some ce → ce.vm = .none → s.vm.findClass E = some ce.cls → vx_W p l e R s m args below meth c H1 locs1 (cells + mc) (slots + ms) Q (F0 m pc ls rest) q9)
    (kk : ∀ (u : S) (t : State) (H1 : Heap) (locs1 : List Loc), t.heap = H1 → s.vm.Alike t.vm → post u → B u t → H.size ≤ H1.size → (∀ q : Nat, q < H.size → ¬ A1 q → H1[q]? = H[q]?) → va_S A0 H0 H1 locs1 → W p l e R s m args below meth c H1 locs1 (cells + mc) (slots + ms) Q (F0 m (pc + 3) ls (rest))) : W p l e R s m args below meth c H locs cells slots Q (F0 m pc ls st0) := by
  intro T hT X
  rcases hr T hT X with ⟨v, st₀, t, T', L, h0, X', hL, e1, e2, ⟨⟨u, hv, hp, hb⟩, hF⟩, st⟩ | ⟨q, st₀, t, T', L, E, ce, h0, X', hL, e1, e2, ⟨u, hp, hb, hF⟩, hce, hcv, hcl, st⟩
  · cases hv
    obtain ⟨k1, k2, k3⟩ := vx_keep h0 e1 hS hA hf hL hF
    obtain ⟨t2, a1, b1⟩ := kk u t T'.heap (locs ++ L) e1.symm (by rw [← e2]; exact X'.warmed.alike) hp hb k1 k2 k3 T' rfl X'
    exact ⟨t2, st t2 a1, b1⟩
  · obtain ⟨k1, k2, k3⟩ := vx_keep h0 e1 hS hAX hf hL hF
    obtain ⟨t2, a1, b1⟩ := kx E ce q u t T'.heap (locs ++ L) e1.symm (by rw [← e2]; exact X'.warmed.alike) hp hb k1 k2 k3 (by rw [e1]; exact hce) hcv hcl T' rfl X'
    exact ⟨t2, st.trans a1, b1⟩
/-- caught by the row x of this method's table; the rows ahead don't take it -/
theorem vx_catch {own name : String} {E : String} {ce : Cell} {q : Addr} (hown : s.vm.findClass own = some m.cls) (pre : List ExceptionTableEntry) (x : ExceptionTableEntry) (suf : List ExceptionTableEntry) (hsplit : c.exceptionTable.toList = pre ++ x :: suf)
    (hpass : ∀ z ∈ pre, covers z pc = false ∨ (z.catchType ≠ 0 ∧ ∃ nm : String, (Cond.classLink own z.catchType nm).before args s = true ∧ va_Nc E nm s)) (hx : covers x pc = true) (h0 : x.catchType ≠ 0)
    (hlink : (Cond.classLink own x.catchType name).before args s = true) (hcast : (Cond.castable E name).before args s = true) (hcell : H[q]? = some ce) (hv : ce.vm = .none) (hcl : s.vm.findClass E = some ce.cls)
    (kk : W p l e R s m args below meth c H locs cells slots Q (F0 m x.handlerPc ls [.ref q])) : vx_W p l e R s m args below meth c H locs cells slots Q (F0 m pc ls rest) q := by
  intro T hT X
  have hpl : e.platform.magicAccessors = ({} : Platform).magicAccessors := by rw [X.admits.platform]
  obtain ⟨c3, c4, hc3, hc4, hasg⟩ := Cond.castable_spec hcast
  cases Option.some.inj (hc3.symm.trans hcl)
  obtain ⟨c5, hc5, hcl5⟩ := Cond.classLink_spec hown hlink e.platform hpl
  cases Option.some.inj (hc4.symm.trans hc5)
  obtain ⟨vm', X', st⟩ := X.thenCaughtThrough q (g := F0 m pc ls rest) rfl (Steps.refl _) (by rw [hT]; exact hcell) (by rw [hv]; rfl) (by obtain ⟨k9, h9, -⟩ := Vm.findClass_spec hcl; exact ⟨k9, h9⟩) pre x suf hsplit
    (fun z hz => by
      rcases hpass z hz with h | ⟨hz0, nm, hl1, hn1⟩
      · exact Or.inl h
      · obtain ⟨c6, hc6, hcl6⟩ := Cond.classLink_spec hown hl1 e.platform hpl
        obtain ⟨a8, b8, h1, h2, h3⟩ := hn1
        cases Option.some.inj (h1.symm.trans hcl)
        cases Option.some.inj (h2.symm.trans hc6)
        exact Or.inr ⟨hz0, _, hcl6, h3⟩) hx (Or.inr ⟨h0, c4, hcl5, hasg⟩)
  obtain ⟨t, a1, b1⟩ := kk (T.setVm vm') hT X'
  exact ⟨t, st.trans a1, b1⟩
end Rows
section Ends
variable {p : Program} {l : Launch} {e : Env} {R : Room} {s : State} {m : MethodId} {args : Array Value} {below : List Frame} {meth : Method} {c : Code} {H : Heap} {locs : List Loc} {cells slots : Nat} {Q : State → Prop}
variable {mc ms : Nat} {free : Addr → Prop} {A0 A1 : Nat → Prop} {H0 : Heap} {a : Array Value} {ls : Array Slot} {st0 rest : List Value}
variable {Qc : Array Value → State → Outcome → State → Prop} {XC : String → State → State → Prop}
/-- what a body that may throw owes at its end -/
def vx_MQ (below : List Frame) (Qc : Array Value → State → Outcome → State → Prop) (XC : String → State → State → Prop) (a : Array Value) (s : State) (mc ms : Nat) (free : Addr → Prop) : State → Prop := fun t =>
  ∃ o, t.status = .running ∧ Ended t below o ∧ vx_Q Qc XC mc ms free a s o t
theorem vx_ret {g : JFrame} {mc ms : Nat} (k : W p l e R s m args below meth c H locs cells slots (MQ below Qc args s mc ms free) g) : W p l e R s m args below meth c H locs cells slots (vx_MQ below Qc XC args s mc ms free) g := by
  intro T hT X
  obtain ⟨t, a1, o, b1, b2, b3, b4⟩ := k T hT X
  exact ⟨t, a1, o, b1, b2, Or.inl ⟨b3, b4⟩⟩
/-- not caught here: it goes on to the caller -/
theorem vx_widen {g : JFrame} {q : Addr} {k n : Nat} (h1 : cells ≤ k) (h2 : slots ≤ n) (kk : vx_W p l e R s m args below meth c H locs k n Q g q) : vx_W p l e R s m args below meth c H locs cells slots Q g q := fun T hT X => kk T hT (stand_widen X h1 h2)
theorem vx_out {pc : Nat} {E : String} {ce : Cell} {q : Addr} {mc ms : Nat} (hout : ∀ x ∈ c.exceptionTable.toList, covers x pc = false) (hlocks : meth.locks = false) (hcell : H[q]? = some ce) (hv : ce.vm = .none) (hcl : s.vm.findClass E = some ce.cls)
    (hx : ∀ t : State, t.heap = H → s.vm.Alike t.vm → XC E s t) (hf : ∀ z ∈ locs, free z.base) (hc : cells ≤ mc) (hs : slots ≤ ms) :
    vx_W p l e R s m args below meth c H locs cells slots (vx_MQ below Qc XC args s mc ms free) (F0 m pc ls rest) q := by
  intro T hT X
  obtain ⟨st1, hrun, hend, hW, hsm⟩ := X.leaveThrown q (g := F0 m pc ls rest) rfl rfl rfl hout hlocks
  have hcell9 : (T.setFrames (.throwing q :: below)).heap[q]? = some ce := by
    show T.heap[q]? = some ce
    rw [hT]; exact hcell
  exact ⟨_, st1, .threw q, hrun, hend, Or.inr ⟨q, rfl, E, ce, locs, hx _ hT hW.alike, hcell9, hv, hcl, hW, hsm.mono hc hs, hf⟩⟩
theorem vx_frame {U : State} {k n : Nat} (h : s.sameButNew ({ U with vm := s.vm } : State) locs k n) : s.heap.size ≤ U.heap.size ∧ ∀ q : Nat, q < s.heap.size → (∀ z ∈ locs, z.base ≠ q) → U.heap[q]? = s.heap[q]? := by
  obtain ⟨-, h2, -, -, -, h6⟩ := h
  refine ⟨h2, fun q hq hz => ?_⟩
  obtain ⟨c9, e1, e2, e3, e4⟩ := h6 q _ (Array.getElem?_eq_getElem hq)
  have hs : c9.slots = (s.heap[q]).slots := Array.ext_getElem? fun i => e4 i fun hm => hz _ hm rfl
  have h9 : c9 = s.heap[q] := by
    rw [hs] at e2
    exact e2
  have e5 : U.heap[q]? = some c9 := e1
  rw [e5, h9, Array.getElem?_eq_getElem hq]
/-- the words of a throw but the four that speak of the heap -/
def vx_no (w : Cond) : Bool := decide (w ≠ .isRef (.static Bundle.tN "UNASSIGNED_STACK" Bundle.steD)) && decide (w ≠ .isRef (.static Bundle.tN "SUPPRESSED_SENTINEL" Bundle.listD)) && decide (w ≠ .laysStatic Bundle.tN "UNASSIGNED_STACK" Bundle.steD) && decide (w ≠ .laysStatic Bundle.tN "SUPPRESSED_SENTINEL" Bundle.listD)
def vx_at0 (own : String) (ic : Nat) (X : String) (names : List String) : List Cond := (Bundle.ownAtoms0 own ic X names).filter vx_no
def vx_atS (own : String) (ic : Nat) (X : String) (names : List String) : List Cond := (Bundle.ownAtoms own ic X names).filter vx_no
/-- a word that the tables alone decide, or a good one -/
def vx_ot (w : Cond) : Bool := w.onTables || goodWord w
theorem vx_ot_at {args a' : Array Value} {s U : State} {w : Cond} (hW : s.WarmedH U.vm) (hvm : s.vm = U.vm) (hg : vx_ot w = true) (h : w.before args s = true) : w.before a' U = true := by
  simp only [vx_ot, Bool.or_eq_true] at hg
  rcases hg with hg | hg
  · exact va_tabs hg hvm h
  · exact word_at hW (good_of_word hg) h
/-- a list's words: the good ones out of the method's own list, the others by premises of their own -/
theorem vx_hat {args : Array Value} {s : State} {L B : List Cond} (h1 : ∀ w ∈ L.filter goodWord, w.before args s = true) (h2 : ∀ w ∈ L.filter (fun w => !goodWord w), w ∈ B) (h3 : ∀ w ∈ B, w.before args s = true) : ∀ w ∈ L, w.before args s = true := by
  intro w hw
  by_cases g : goodWord w = true
  · exact h1 w (List.mem_filter.mpr ⟨hw, g⟩)
  · refine h3 w (h2 w (List.mem_filter.mpr ⟨hw, ?_⟩))
    show (!goodWord w) = true
    cases hgw : goodWord w
    · rfl
    · exact absurd hgw g
theorem vx_c {args : Array Value} {s : State} {w : Cond} {B : List Cond} (h : w.before args s = true) (t : ∀ w ∈ B, w.before args s = true) : ∀ w' ∈ w :: B, w'.before args s = true := fun w' h' => (List.mem_cons.mp h').elim (fun e => by rw [e]; exact h) (t w')
theorem vx_n {args : Array Value} {s : State} : ∀ w ∈ ([] : List Cond), w.before args s = true := fun _ h => nomatch h
theorem vx_own {args : Array Value} {s : State} {L : List Cond} (h1 : ∀ w ∈ L.filter vx_no, w.before args s = true)
    (hU : (Cond.isRef (.static Bundle.tN "UNASSIGNED_STACK" Bundle.steD)).before args s = true) (hN : (Cond.isRef (.static Bundle.tN "SUPPRESSED_SENTINEL" Bundle.listD)).before args s = true)
    (lU : (Cond.laysStatic Bundle.tN "UNASSIGNED_STACK" Bundle.steD).before args s = true) (lN : (Cond.laysStatic Bundle.tN "SUPPRESSED_SENTINEL" Bundle.listD).before args s = true) : ∀ w ∈ L, w.before args s = true := by
  intro w hw
  by_cases e1 : w = .isRef (.static Bundle.tN "UNASSIGNED_STACK" Bundle.steD)
  · rw [e1]; exact hU
  · by_cases e2 : w = .isRef (.static Bundle.tN "SUPPRESSED_SENTINEL" Bundle.listD)
    · rw [e2]; exact hN
    · by_cases e3 : w = .laysStatic Bundle.tN "UNASSIGNED_STACK" Bundle.steD
      · rw [e3]; exact lU
      · by_cases e4 : w = .laysStatic Bundle.tN "SUPPRESSED_SENTINEL" Bundle.listD
        · rw [e4]; exact lN
        · exact h1 w (List.mem_filter.mpr ⟨hw, by unfold vx_no; rw [decide_eq_true e1, decide_eq_true e2, decide_eq_true e3, decide_eq_true e4]; rfl⟩)
/-- where a static field lies, its class's statics cell in H -/
def vx_L (C n d : String) (A : Nat → Prop) (U : State) (H : Heap) : Prop := ∃ (c : ClassId) (k : Class) (i : Nat) (f : Field) (a : Nat) (cell : Cell), U.vm.findClass C = some c ∧ U.fieldFound? C n d = some (c, k, i, f) ∧ f.isStatic = true ∧ k.statics = some a ∧ H[a]? = some cell ∧ cell.vm.isStatics = true ∧ cell.cls = c ∧ f.slot < cell.slots.size ∧ k.staticTypes[f.slot]? = some f.type ∧ ¬ A a
theorem vx_L.moved {C n d : String} {A : Nat → Prop} {u U : State} {H : Heap} (hvm : u.vm.Alike U.vm) (h : vx_L C n d A u H) : vx_L C n d A U H := by
  obtain ⟨c, k, i, f, a, cell, h1, h2, h3, h4, h5, h6, h7, h8, h9, h10⟩ := h
  obtain ⟨k', hi', he⟩ := State.fieldFound?_setVm hvm h2
  exact ⟨c, k', i, f, a, cell, by rw [hvm.findClass]; exact h1, hi', h3, by rw [he]; exact h4, h5, h6, h7, h8, by rw [he]; exact h9, h10⟩
theorem vx_L.kept {C n d : String} {A : Nat → Prop} {U : State} {H H1 : Heap} (h : vx_L C n d A U H) (hq : ∀ a : Nat, a < H.size → ¬ A a → H1[a]? = H[a]?) : vx_L C n d A U H1 := by
  obtain ⟨c, k, i, f, a, cell, h1, h2, h3, h4, h5, h6, h7, h8, h9, h10⟩ := h
  exact ⟨c, k, i, f, a, cell, h1, h2, h3, h4, by rw [hq a (Array.getElem?_eq_some_iff.mp h5).1 h10]; exact h5, h6, h7, h8, h9, h10⟩
theorem vx_L.narrow {C n d : String} {A B : Nat → Prop} {U : State} {H : Heap} (h : vx_L C n d A U H) (hAB : ∀ q, B q → A q) : vx_L C n d B U H := by
  obtain ⟨c, k, i, f, a, cell, h1, h2, h3, h4, h5, h6, h7, h8, h9, h10⟩ := h
  exact ⟨c, k, i, f, a, cell, h1, h2, h3, h4, h5, h6, h7, h8, h9, fun z => h10 (hAB _ z)⟩
theorem vx_L.word {C n d : String} {A : Nat → Prop} {s : State} {args : Array Value} (h : vx_L C n d A s s.heap) : (Cond.laysStatic C n d).before args s = true := by
  obtain ⟨c, k, i, f, a, cell, h1, h2, h3, h4, h5, h6, h7, h8, h9, -⟩ := h
  show (Cond.laysStatic C n d).holds args s none s [] = true
  exact Cond.laysStatic_of h1 h2 h3 h4 h5 h6 h7 h8 h9
/-- .. and what it holds: null or some reference -/
def vx_Zq (C n d : String) (A : Nat → Prop) (U : State) (H : Heap) : Prop := va_Zq C n d A U H ∧ vx_L C n d A U H
theorem vx_Zq.moved {C n d : String} {A : Nat → Prop} {u U : State} {H : Heap} (hvm : u.vm.Alike U.vm) (h : vx_Zq C n d A u H) : vx_Zq C n d A U H := ⟨va_Zq.moved hvm h.1, vx_L.moved hvm h.2⟩
theorem vx_Zq.kept {C n d : String} {A : Nat → Prop} {U : State} {H H1 : Heap} (h : vx_Zq C n d A U H) (hq : ∀ a : Nat, a < H.size → ¬ A a → H1[a]? = H[a]?) : vx_Zq C n d A U H1 := ⟨va_Zq.kept h.1 hq, vx_L.kept h.2 hq⟩
theorem vx_Zq.narrow {C n d : String} {A B : Nat → Prop} {U : State} {H : Heap} (h : vx_Zq C n d A U H) (hAB : ∀ q, B q → A q) : vx_Zq C n d B U H := ⟨va_Zq.narrow h.1 hAB, vx_L.narrow h.2 hAB⟩
theorem vx_Zqof {args : Array Value} {s : State} {C n d : String} {A : Nat → Prop} (hl : (Cond.laysStatic C n d).before args s = true) (hini : (Cond.initialized C).before args s = true) (h : (Cond.isRef (.static C n d)).before args s = true) (hA : ∀ a : Nat, a < s.heap.size → ¬ A a) : vx_Zq C n d A s s.heap := by
  refine ⟨va_Zqof hl hini h hA, ?_⟩
  obtain ⟨c, k, i, f, a, cell, h1, h2, h3, h4, h5, h6, h7, h8, h9⟩ := Cond.laysStatic_spec hl
  exact ⟨c, k, i, f, a, cell, h1, h2, h3, h4, h5, h6, h7, h8, h9, hA a (Array.getElem?_eq_some_iff.mp h5).1⟩
theorem vx_isRef {C n d : String} {v : Value} {A : Nat → Prop} {s : State} {args : Array Value} (h : va_Z C n d v A s s.heap) (hv : v.isRef = true) : (Cond.isRef (.static C n d)).before args s = true := by
  obtain ⟨cf, kf, fi, f, a, cell, h1, h2, h3, h4, h5, h6, h7, -⟩ := h
  have he : (Term.static C n d).eval args s none [] s = some v := by
    simp [Term.eval, State.fieldNamed?, h1, h2, h4, h5, h6, h7]
  simp only [Cond.before, Cond.holds, Cond.value, he]
  cases v <;> simp_all [Value.isRef]
theorem vx_isRefq {C n d : String} {A : Nat → Prop} {s : State} {args : Array Value} (h : va_Zq C n d A s s.heap) : (Cond.isRef (.static C n d)).before args s = true := by
  rcases h with h | ⟨t, h⟩
  · exact vx_isRef h rfl
  · exact vx_isRef h rfl
/-- the same frame, seen from here: as if the method were called anew in this heap -/
theorem vx_rebase {T : State} (X : Stand p l e R s m args below meth c T locs cells slots) {R' : Room} (hf : R'.frames ≤ R.frames) (hl : R'.locals ≤ R.locals) (hc : cells + R'.cells ≤ R.cells) (hs : slots + R'.slots ≤ R.slots) :
    Stand p l e R' ((T.setVm s.vm).setFrames (.invoking m args :: below)) m args below meth c T [] 0 0 := by
  have htop : (T.setVm s.vm).topJava?.isSome := X.here.top
  have hF : ((T.setVm s.vm).setFrames (.invoking m args :: below)).frames = .invoking m args :: below := State.frames_setFrames _ (State.cur_lt_of_top htop)
  obtain ⟨g₀, hg0⟩ := Option.isSome_iff_exists.mp htop
  obtain ⟨r, hr⟩ := State.topJava?_eq_some.mp hg0
  have hl9 : e.platform.stackLimits (T.setVm s.vm).me = e.platform.stackLimits s.me := X.limits
  have hb9 : (T.setVm s.vm).me.stackBytes = s.me.stackBytes := X.bytes
  refine ⟨X.admits, X.cas, X.clock, hF, ?_, X.hears, X.method, X.code, X.here, X.tail, X.warmed, ?_, ?_, ?_⟩
  · have h := X.room
    have hU : ((T.setVm s.vm).setFrames (.invoking m args :: below)).localsInUse = s.localsInUse := by
      rw [State.localsInUse_invoking hF (meth := meth) (c := c) X.method X.code, State.localsInUse_invoking X.frames X.method X.code]
    simp only [State.hasRoom, Bool.and_eq_true, decide_eq_true_eq] at h ⊢
    obtain ⟨⟨⟨⟨h1, h2, h3, h4, h5, h6⟩, h7⟩, h8⟩, h9⟩ := h
    rw [X.frames, List.length_cons] at h2 h3
    have q1 := X.heapSize
    have q2 := X.used
    simp only [hF, hU, List.length_cons, State.stackLimits_setFrames, State.stackBytes_setFrames, hl9, hb9]
    refine ⟨⟨⟨⟨by omega, by omega, by omega, by omega, by omega, h6⟩, ?_⟩, ?_⟩, X.book⟩
    · show T.heap.size + R'.cells ≤ e.platform.maxCells
      omega
    · show T.slotsUsed + R'.slots ≤ e.platform.maxSlots
      omega
  · rw [State.stackLimits_setFrames]; rfl
  · rw [State.stackBytes_setFrames]; rfl
  · refine ⟨?_, Nat.le_refl _, Nat.le_refl _, ?_, ?_, fun a c9 h9 => ⟨c9, h9, rfl, rfl, fun _ _ => rfl⟩⟩
    · obtain ⟨t, ht, -⟩ := State.frames_cons hr
      show T.setVm s.vm = { ((T.setVm s.vm).setFrames (.invoking m args :: below)).setFrames (T.setVm s.vm).frames with heap := T.heap, slotsUsed := T.slotsUsed }
      rw [State.setFrames_setFrames, State.setFrames_self ht]
      rfl
    · show T.slotsUsed = T.slotsUsed + ((T.heap.toList.drop T.heap.size).map (·.slots.size)).sum
      rw [List.drop_eq_nil_of_le (Nat.le_of_eq Array.length_toList)]
      rfl
    · show ((T.heap.toList.drop T.heap.size).map (·.slots.size)).sum ≤ 0
      rw [List.drop_eq_nil_of_le (Nat.le_of_eq Array.length_toList)]
      exact Nat.le_refl _
/-- 'throw new E()': new; dup; invokespecial; athrow -/
theorem vx_throw0 {cc : ByteArray} {pc : Nat} (hexec : p.tables.exec = Jvm.exec) (hb : c.code = cc) (hl : l.stackTraces = false) {own cls : String} {names : List String} {ik ic mc ms : Nat} {A : Nat → Prop}
    (hown : s.vm.findClass own = some m.cls) (hcls : Bundle.fit cls = true) (hnames : ∀ n ∈ names, Bundle.fit n = true)
    (hk : (Cond.classLink own ik cls).before args s = true) (hini : (Cond.initialized cls).before args s = true) (hat : ∀ w ∈ vx_at0 own ic cls names, w.before args s = true)
    (hgood : ∀ w ∈ Cond.classLink own ik cls :: Cond.initialized cls :: vx_at0 own ic cls names, vx_ot w = true)
    (hU : vx_Zq Bundle.tN "UNASSIGNED_STACK" Bundle.steD A s s.heap) (hN : vx_Zq Bundle.tN "SUPPRESSED_SENTINEL" Bundle.listD A s s.heap) (hS : va_S A s.heap H locs) (hsize : ls.size = c.maxLocals)
    (d0 : decode cc pc = .ok (.new ik, 3)) (d3 : decode cc (pc + 3) = .ok (.dup, 1)) (d4 : decode cc (pc + 4) = .ok (.invokespecial ic, 3)) (d7 : decode cc (pc + 7) = .ok (.athrow, 1))
    (hout : ∀ x ∈ c.exceptionTable.toList, covers x (pc + 7) = false)
    (hRframes : names.length + 3 < R.frames) (hRlocals : (rest.map fun v => v.category).sum + (13 * (names.length + 1) + 42) ≤ R.locals) (hRcells : cells + 1 ≤ R.cells) (hRslots : slots + 6 ≤ R.slots) (hlocks : meth.locks = false)
    (hx : ∀ t : State, s.vm.Alike t.vm → H.size ≤ t.heap.size → (∀ q : Nat, q < H.size → t.heap[q]? = H[q]?) → XC cls s t)
    (hf : ∀ z ∈ locs, free z.base) (hc : cells + 1 ≤ mc) (hs : slots + 6 ≤ ms) :
    W p l e R s m args below meth c H locs cells slots (vx_MQ below Qc XC args s mc ms free) (F0 m pc ls rest) := by
  intro T hT X
  have htr : e.platform.stackTraces = false := (show e.platform.stackTraces = l.stackTraces by rw [X.admits.platform]).trans hl
  have Y := vx_rebase X (R' := { frames := R.frames, locals := R.locals, cells := 1, slots := 6 }) (Nat.le_refl _) (Nat.le_refl _) hRcells hRslots
  obtain ⟨s', hA⟩ : ∃ z, z = (T.setVm s.vm).setFrames (.invoking m args :: below) := ⟨_, rfl⟩
  rw [← hA] at Y
  have hvm : s'.vm = s.vm := by rw [hA]; rfl
  have hhp : s'.heap = H := by rw [hA]; exact hT
  have hW0 : s.WarmedH s'.vm := by rw [hvm]; exact State.WarmedH.refl s
  have hat' : ∀ w ∈ vx_at0 own ic cls names, w.before args s' = true := fun w hw => vx_ot_at hW0 hvm.symm (hgood w (List.mem_cons_of_mem _ (List.mem_cons_of_mem _ hw))) (hat w hw)
  have hk' : (Cond.classLink own ik cls).before args s' = true := vx_ot_at hW0 hvm.symm (hgood _ List.mem_cons_self) hk
  have hini' : (Cond.initialized cls).before args s' = true := vx_ot_at hW0 hvm.symm (hgood _ (List.mem_cons_of_mem _ List.mem_cons_self)) hini
  have hU' : vx_Zq Bundle.tN "UNASSIGNED_STACK" Bundle.steD A s' s'.heap := by rw [hhp]; exact vx_Zq.moved hW0.alike (hU.kept hS.2.1)
  have hN' : vx_Zq Bundle.tN "SUPPRESSED_SENTINEL" Bundle.listD A s' s'.heap := by rw [hhp]; exact vx_Zq.moved hW0.alike (hN.kept hS.2.1)
  have h : ∀ w ∈ Bundle.ownAtoms0 own ic cls names, w.before args s' = true := vx_own hat' (vx_isRefq hU'.1) (vx_isRefq hN'.1) hU'.2.word hN'.2.word
  have hown' : s'.vm.findClass own = some m.cls := by rw [hvm]; exact hown
  have hins : (Cond.instantiable cls 6).before args s' = true := h _ (by simp [Bundle.ownAtoms0])
  obtain ⟨vm₁, cX, kX, hfX, hkX, -, -, X₁, st1⟩ := Y.newCold hexec (own := own) (C := cls) (index := ik) (n := 6) hown' hk' hins hini'
    (g := F0 m pc ls rest) rfl (by rw [hb]; exact d0) (Nat.le_refl _) (Nat.le_refl _)
  generalize hT1 : (T.setVm vm₁).pushCell { cls := cX, slots := kX.instanceTypes.map defaultValue, vm := .none } = T1 at X₁ st1
  have hcat : (Value.ref T.heap.size).category = 1 := rfl
  have hcellA : T1.heap[T.heap.size]? = some (freshCell cX kX) := by rw [← hT1]; exact State.heap_pushCell_size _ _
  have d3' : decode c.code (pc + 3) = .ok (.dup, 1) := by rw [hb]; exact d3
  obtain ⟨U, hsteps, hrun, hend, hW, hsame, ce, hce, hO⟩ := X₁.ctorThrow0 hexec htr (own := own) (cls := cls) (names := names) (ic := ic) hown' hcls hnames h (fun x hx => nomatch hx) hfX hkX hcellA (by rw [hhp, hT]; exact Nat.le_refl _)
    (g := { method := m, pc := pc + 4, locals := ls, stack := .ref T.heap.size :: .ref T.heap.size :: rest, locked := none }) rfl hsize rfl rfl (rest := rest) rfl
    (by rw [hb]; exact d4) (by rw [hb]; exact d7) hout hRframes (by simp only [List.map_cons, List.sum_cons, hcat]; omega) hlocks
  obtain ⟨f1, f2⟩ := vx_frame hsame
  rw [hhp] at f1 f2
  have hWs : s.WarmedH U.vm := State.WarmedH.trans hW0 hW
  have hcl : s.vm.findClass cls = some ce.cls := by
    have h9 := hO.cls
    rw [hvm] at h9
    exact h9
  have hall : s.sameButNew ({ U with vm := s.vm } : State) locs mc ms := by
    subst hA
    obtain ⟨e1, e2⟩ := hsame
    rw [State.setFrames_setFrames] at e1
    have h2 : (T.setVm s.vm).sameButNew ({ U with vm := s.vm } : State) [] (0 + 1) (0 + 6) := ⟨e1, e2⟩
    have h3 := X.same.trans h2
    rw [List.append_nil] at h3
    exact h3.mono hc hs
  refine ⟨U, ?_, .threw T.heap.size, hrun, hend, Or.inr ⟨T.heap.size, rfl, cls, ce, locs, hx U hWs.alike f1 (fun q hq => f2 q hq (fun z hz => nomatch hz)), hce, hO.vm, hcl, hWs, hall, hf⟩⟩
  refine st1 _ ?_
  show Steps p.tables e below (T1.setTop { method := m, pc := pc + 3, locals := ls, stack := .ref T.heap.size :: rest, locked := none }) _
  jvm_step X₁.here [X₁.here.top, hexec, d3', Value.category]
  exact hsteps
/-- 'throw new E("text")': new; dup; ldc; invokespecial; athrow -/
theorem vx_throwS {cc : ByteArray} {pc : Nat} (hexec : p.tables.exec = Jvm.exec) (hb : c.code = cc) (hl : l.stackTraces = false) {own cls text : String} {names : List String} {ik is ic mc ms sa : Nat} {A : Nat → Prop}
    (hown : s.vm.findClass own = some m.cls) (hcls : Bundle.fit cls = true) (hnames : ∀ n ∈ names, Bundle.fit n = true)
    (hk : (Cond.classLink own ik cls).before args s = true) (hini : (Cond.initialized cls).before args s = true) (hstr : vk_R own is text sa s) (hat : ∀ w ∈ vx_atS own ic cls names, w.before args s = true)
    (hgood : ∀ w ∈ Cond.classLink own ik cls :: Cond.initialized cls :: vx_atS own ic cls names, vx_ot w = true)
    (hU : vx_Zq Bundle.tN "UNASSIGNED_STACK" Bundle.steD A s s.heap) (hN : vx_Zq Bundle.tN "SUPPRESSED_SENTINEL" Bundle.listD A s s.heap) (hS : va_S A s.heap H locs) (hsize : ls.size = c.maxLocals)
    (d0 : decode cc pc = .ok (.new ik, 3)) (d3 : decode cc (pc + 3) = .ok (.dup, 1)) (d4 : decode cc (pc + 4) = .ok (.ldc is, 2)) (d6 : decode cc (pc + 6) = .ok (.invokespecial ic, 3)) (d9 : decode cc (pc + 9) = .ok (.athrow, 1))
    (hout : ∀ x ∈ c.exceptionTable.toList, covers x (pc + 9) = false)
    (hRframes : names.length + 3 < R.frames) (hRlocals : (rest.map fun v => v.category).sum + (13 * (names.length + 1) + 43) ≤ R.locals) (hRcells : cells + 1 ≤ R.cells) (hRslots : slots + 6 ≤ R.slots) (hlocks : meth.locks = false)
    (hx : ∀ t : State, s.vm.Alike t.vm → H.size ≤ t.heap.size → (∀ q : Nat, q < H.size → t.heap[q]? = H[q]?) → XC cls s t)
    (hf : ∀ z ∈ locs, free z.base) (hc : cells + 1 ≤ mc) (hs : slots + 6 ≤ ms) :
    W p l e R s m args below meth c H locs cells slots (vx_MQ below Qc XC args s mc ms free) (F0 m pc ls rest) := by
  intro T hT X
  have htr : e.platform.stackTraces = false := (show e.platform.stackTraces = l.stackTraces by rw [X.admits.platform]).trans hl
  have Y := vx_rebase X (R' := { frames := R.frames, locals := R.locals, cells := 1, slots := 6 }) (Nat.le_refl _) (Nat.le_refl _) hRcells hRslots
  obtain ⟨s', hA⟩ : ∃ z, z = (T.setVm s.vm).setFrames (.invoking m args :: below) := ⟨_, rfl⟩
  rw [← hA] at Y
  have hvm : s'.vm = s.vm := by rw [hA]; rfl
  have hhp : s'.heap = H := by rw [hA]; exact hT
  have hW0 : s.WarmedH s'.vm := by rw [hvm]; exact State.WarmedH.refl s
  have hat' : ∀ w ∈ vx_atS own ic cls names, w.before args s' = true := fun w hw => vx_ot_at hW0 hvm.symm (hgood w (List.mem_cons_of_mem _ (List.mem_cons_of_mem _ hw))) (hat w hw)
  have hk' : (Cond.classLink own ik cls).before args s' = true := vx_ot_at hW0 hvm.symm (hgood _ List.mem_cons_self) hk
  have hini' : (Cond.initialized cls).before args s' = true := vx_ot_at hW0 hvm.symm (hgood _ (List.mem_cons_of_mem _ List.mem_cons_self)) hini
  have hU' : vx_Zq Bundle.tN "UNASSIGNED_STACK" Bundle.steD A s' s'.heap := by rw [hhp]; exact vx_Zq.moved hW0.alike (hU.kept hS.2.1)
  have hN' : vx_Zq Bundle.tN "SUPPRESSED_SENTINEL" Bundle.listD A s' s'.heap := by rw [hhp]; exact vx_Zq.moved hW0.alike (hN.kept hS.2.1)
  have h : ∀ w ∈ Bundle.ownAtoms own ic cls names, w.before args s' = true := vx_own hat' (vx_isRefq hU'.1) (vx_isRefq hN'.1) hU'.2.word hN'.2.word
  have hown' : s'.vm.findClass own = some m.cls := by rw [hvm]; exact hown
  have hins : (Cond.instantiable cls 6).before args s' = true := h _ (by simp [Bundle.ownAtoms])
  obtain ⟨vm₁, cX, kX, hfX, hkX, -, -, X₁, st1⟩ := Y.newCold hexec (own := own) (C := cls) (index := ik) (n := 6) hown' hk' hins hini'
    (g := F0 m pc ls rest) rfl (by rw [hb]; exact d0) (Nat.le_refl _) (Nat.le_refl _)
  generalize hT1 : (T.setVm vm₁).pushCell { cls := cX, slots := kX.instanceTypes.map defaultValue, vm := .none } = T1 at X₁ st1
  have hcat : (Value.ref T.heap.size).category = 1 := rfl
  have hcellA : T1.heap[T.heap.size]? = some (freshCell cX kX) := by rw [← hT1]; exact State.heap_pushCell_size _ _
  have d3' : decode c.code (pc + 3) = .ok (.dup, 1) := by rw [hb]; exact d3
  have d4' : decode c.code (pc + 4) = .ok (.ldc is, 2) := by rw [hb]; exact d4
  have hstr' : vk_R own is text sa s' := vk_R.warm hW0 hstr
  obtain ⟨U, hsteps, hrun, hend, hW, hsame, ce, hce, hO⟩ := X₁.ctorThrowS hexec htr (own := own) (cls := cls) (names := names) (ic := ic) hown' hcls hnames h (fun x hx => nomatch hx) hfX hkX hcellA (by rw [hhp, hT]; exact Nat.le_refl _) (msg := .ref sa) rfl
    (g := { method := m, pc := pc + 6, locals := ls, stack := .ref sa :: .ref T.heap.size :: .ref T.heap.size :: rest, locked := none }) rfl hsize rfl rfl (rest := rest) rfl
    (by rw [hb]; exact d6) (by rw [hb]; exact d9) hout hRframes (by simp only [List.map_cons, List.sum_cons, hcat]; omega) hlocks
  obtain ⟨f1, f2⟩ := vx_frame hsame
  rw [hhp] at f1 f2
  have hWs : s.WarmedH U.vm := State.WarmedH.trans hW0 hW
  have hcl : s.vm.findClass cls = some ce.cls := by
    have h9 := hO.cls
    rw [hvm] at h9
    exact h9
  have hall : s.sameButNew ({ U with vm := s.vm } : State) locs mc ms := by
    subst hA
    obtain ⟨e1, e2⟩ := hsame
    rw [State.setFrames_setFrames] at e1
    have h2 : (T.setVm s.vm).sameButNew ({ U with vm := s.vm } : State) [] (0 + 1) (0 + 6) := ⟨e1, e2⟩
    have h3 := X.same.trans h2
    rw [List.append_nil] at h3
    exact h3.mono hc hs
  refine ⟨U, ?_, .threw T.heap.size, hrun, hend, Or.inr ⟨T.heap.size, rfl, cls, ce, locs, hx U hWs.alike f1 (fun q hq => f2 q hq (fun z hz => nomatch hz)), hce, hO.vm, hcl, hWs, hall, hf⟩⟩
  refine st1 _ ?_
  show Steps p.tables e below (T1.setTop { method := m, pc := pc + 3, locals := ls, stack := .ref T.heap.size :: rest, locked := none }) _
  jvm_step X₁.here [X₁.here.top, hexec, d3', Value.category]
  exact X₁.ldcString hexec (own := own) (text := text) (index := is) (a := sa) hown' hstr'.1 hstr'.2
    (g := { method := m, pc := pc + 4, locals := ls, stack := .ref T.heap.size :: .ref T.heap.size :: rest, locked := none }) rfl d4' _ hsteps
/-- 'throw new E("text")', the text by a wide index -/
theorem vx_throwSW {cc : ByteArray} {pc : Nat} (hexec : p.tables.exec = Jvm.exec) (hb : c.code = cc) (hl : l.stackTraces = false) {own cls text : String} {names : List String} {ik is ic mc ms sa : Nat} {A : Nat → Prop}
    (hown : s.vm.findClass own = some m.cls) (hcls : Bundle.fit cls = true) (hnames : ∀ n ∈ names, Bundle.fit n = true)
    (hk : (Cond.classLink own ik cls).before args s = true) (hini : (Cond.initialized cls).before args s = true) (hstr : vk_R own is text sa s) (hat : ∀ w ∈ vx_atS own ic cls names, w.before args s = true)
    (hgood : ∀ w ∈ Cond.classLink own ik cls :: Cond.initialized cls :: vx_atS own ic cls names, vx_ot w = true)
    (hU : vx_Zq Bundle.tN "UNASSIGNED_STACK" Bundle.steD A s s.heap) (hN : vx_Zq Bundle.tN "SUPPRESSED_SENTINEL" Bundle.listD A s s.heap) (hS : va_S A s.heap H locs) (hsize : ls.size = c.maxLocals)
    (d0 : decode cc pc = .ok (.new ik, 3)) (d3 : decode cc (pc + 3) = .ok (.dup, 1)) (d4 : decode cc (pc + 4) = .ok (.ldc_w is, 3)) (d7 : decode cc (pc + 7) = .ok (.invokespecial ic, 3)) (d10 : decode cc (pc + 10) = .ok (.athrow, 1))
    (hout : ∀ x ∈ c.exceptionTable.toList, covers x (pc + 10) = false)
    (hRframes : names.length + 3 < R.frames) (hRlocals : (rest.map fun v => v.category).sum + (13 * (names.length + 1) + 43) ≤ R.locals) (hRcells : cells + 1 ≤ R.cells) (hRslots : slots + 6 ≤ R.slots) (hlocks : meth.locks = false)
    (hx : ∀ t : State, s.vm.Alike t.vm → H.size ≤ t.heap.size → (∀ q : Nat, q < H.size → t.heap[q]? = H[q]?) → XC cls s t)
    (hf : ∀ z ∈ locs, free z.base) (hc : cells + 1 ≤ mc) (hs : slots + 6 ≤ ms) :
    W p l e R s m args below meth c H locs cells slots (vx_MQ below Qc XC args s mc ms free) (F0 m pc ls rest) := by
  intro T hT X
  have htr : e.platform.stackTraces = false := (show e.platform.stackTraces = l.stackTraces by rw [X.admits.platform]).trans hl
  have Y := vx_rebase X (R' := { frames := R.frames, locals := R.locals, cells := 1, slots := 6 }) (Nat.le_refl _) (Nat.le_refl _) hRcells hRslots
  obtain ⟨s', hA⟩ : ∃ z, z = (T.setVm s.vm).setFrames (.invoking m args :: below) := ⟨_, rfl⟩
  rw [← hA] at Y
  have hvm : s'.vm = s.vm := by rw [hA]; rfl
  have hhp : s'.heap = H := by rw [hA]; exact hT
  have hW0 : s.WarmedH s'.vm := by rw [hvm]; exact State.WarmedH.refl s
  have hat' : ∀ w ∈ vx_atS own ic cls names, w.before args s' = true := fun w hw => vx_ot_at hW0 hvm.symm (hgood w (List.mem_cons_of_mem _ (List.mem_cons_of_mem _ hw))) (hat w hw)
  have hk' : (Cond.classLink own ik cls).before args s' = true := vx_ot_at hW0 hvm.symm (hgood _ List.mem_cons_self) hk
  have hini' : (Cond.initialized cls).before args s' = true := vx_ot_at hW0 hvm.symm (hgood _ (List.mem_cons_of_mem _ List.mem_cons_self)) hini
  have hU' : vx_Zq Bundle.tN "UNASSIGNED_STACK" Bundle.steD A s' s'.heap := by rw [hhp]; exact vx_Zq.moved hW0.alike (hU.kept hS.2.1)
  have hN' : vx_Zq Bundle.tN "SUPPRESSED_SENTINEL" Bundle.listD A s' s'.heap := by rw [hhp]; exact vx_Zq.moved hW0.alike (hN.kept hS.2.1)
  have h : ∀ w ∈ Bundle.ownAtoms own ic cls names, w.before args s' = true := vx_own hat' (vx_isRefq hU'.1) (vx_isRefq hN'.1) hU'.2.word hN'.2.word
  have hown' : s'.vm.findClass own = some m.cls := by rw [hvm]; exact hown
  have hins : (Cond.instantiable cls 6).before args s' = true := h _ (by simp [Bundle.ownAtoms])
  obtain ⟨vm₁, cX, kX, hfX, hkX, -, -, X₁, st1⟩ := Y.newCold hexec (own := own) (C := cls) (index := ik) (n := 6) hown' hk' hins hini'
    (g := F0 m pc ls rest) rfl (by rw [hb]; exact d0) (Nat.le_refl _) (Nat.le_refl _)
  generalize hT1 : (T.setVm vm₁).pushCell { cls := cX, slots := kX.instanceTypes.map defaultValue, vm := .none } = T1 at X₁ st1
  have hcat : (Value.ref T.heap.size).category = 1 := rfl
  have hcellA : T1.heap[T.heap.size]? = some (freshCell cX kX) := by rw [← hT1]; exact State.heap_pushCell_size _ _
  have d3' : decode c.code (pc + 3) = .ok (.dup, 1) := by rw [hb]; exact d3
  have d4' : decode c.code (pc + 4) = .ok (.ldc_w is, 3) := by rw [hb]; exact d4
  have hstr' : vk_R own is text sa s' := vk_R.warm hW0 hstr
  obtain ⟨U, hsteps, hrun, hend, hW, hsame, ce, hce, hO⟩ := X₁.ctorThrowS hexec htr (own := own) (cls := cls) (names := names) (ic := ic) hown' hcls hnames h (fun x hx => nomatch hx) hfX hkX hcellA (by rw [hhp, hT]; exact Nat.le_refl _) (msg := .ref sa) rfl
    (g := { method := m, pc := pc + 7, locals := ls, stack := .ref sa :: .ref T.heap.size :: .ref T.heap.size :: rest, locked := none }) rfl hsize rfl rfl (rest := rest) rfl
    (by rw [hb]; exact d7) (by rw [hb]; exact d10) hout hRframes (by simp only [List.map_cons, List.sum_cons, hcat]; omega) hlocks
  obtain ⟨f1, f2⟩ := vx_frame hsame
  rw [hhp] at f1 f2
  have hWs : s.WarmedH U.vm := State.WarmedH.trans hW0 hW
  have hcl : s.vm.findClass cls = some ce.cls := by
    have h9 := hO.cls
    rw [hvm] at h9
    exact h9
  have hall : s.sameButNew ({ U with vm := s.vm } : State) locs mc ms := by
    subst hA
    obtain ⟨e1, e2⟩ := hsame
    rw [State.setFrames_setFrames] at e1
    have h2 : (T.setVm s.vm).sameButNew ({ U with vm := s.vm } : State) [] (0 + 1) (0 + 6) := ⟨e1, e2⟩
    have h3 := X.same.trans h2
    rw [List.append_nil] at h3
    exact h3.mono hc hs
  refine ⟨U, ?_, .threw T.heap.size, hrun, hend, Or.inr ⟨T.heap.size, rfl, cls, ce, locs, hx U hWs.alike f1 (fun q hq => f2 q hq (fun z hz => nomatch hz)), hce, hO.vm, hcl, hWs, hall, hf⟩⟩
  refine st1 _ ?_
  show Steps p.tables e below (T1.setTop { method := m, pc := pc + 3, locals := ls, stack := .ref T.heap.size :: rest, locked := none }) _
  jvm_step X₁.here [X₁.here.top, hexec, d3', Value.category]
  exact X₁.ldcStringW hexec (own := own) (text := text) (index := is) (a := sa) hown' hstr'.1 hstr'.2
    (g := { method := m, pc := pc + 4, locals := ls, stack := .ref T.heap.size :: .ref T.heap.size :: rest, locked := none }) rfl d4' _ hsteps
end Ends
section Bodies
variable {l : Launch}
theorem vx_ofW {y : MethodName} {ws ws' : List Cond} {rm : Room} {Pc : Array Value → State → Prop} {Qc : Array Value → State → Outcome → State → Prop} {XC : String → State → State → Prop} {mc ms : Nat} {free : Addr → Prop} {cc : ByteArray} {maxL : Nat} {ret : Option FieldType}
    (hy : plainName y.cls = true) (hw : ws = Cond.code y cc maxL ret :: ws')
    (body : ∀ p e s m args below meth c s₁, BodyLoose p l y (headSpec ws rm) cc maxL ret e s m args below meth c s₁ → c.maxLocals = maxL → (∀ x ∈ c.exceptionTable.toList, False) → Pc args s →
      W p l e (headSpec ws rm).room s m args below meth c s.heap [] 0 0 (vx_MQ below Qc XC args s mc ms free) (entryFrame m args maxL)) : vx_Met l y ws rm Pc Qc XC mc ms free := by
  refine MetFree.of_bodyS (code := cc) (maxLocals := maxL) (ret := ret) hy ?_ ?_
  · intro args s m h hn
    obtain ⟨meth, c, h1, h2, h3, h4, h5, h6, -, -⟩ := Cond.code_spec hn (atoms_spec (ws := ws) h _ (by rw [hw]; exact List.mem_cons_self))
    exact ⟨meth, c, h1, h2, h3, h4, h5, h6⟩
  · intro p e s m args below meth c s₁ B hml hP _
    have hh0 : s₁.heap = s.heap := by rw [B.state]; rfl
    have ht : ∀ x ∈ c.exceptionTable.toList, False := by
      obtain ⟨meth9, c9, h1, h2, -, -, -, -, h7, -⟩ := Cond.code_spec B.named (atoms_spec (ws := ws) B.pre _ (by rw [hw]; exact List.mem_cons_self))
      cases Option.some.inj (h1.symm.trans B.method)
      cases Option.some.inj (h2.symm.trans (Stand.of_body B).code)
      intro x hx
      rw [Array.isEmpty_iff.mp h7] at hx
      cases hx
    obtain ⟨t, a1, o, b1, b2, b3⟩ := body p e s m args below meth c s₁ B hml ht hP s₁ hh0 (Stand.of_body B)
    exact ⟨t, o, a1, b1, b2, b3⟩
/-- the table of a body with handlers -/
theorem vx_table {p : Program} {x y : MethodName} {S : Spec} {cc bytes : ByteArray} {maxL maxL' : Nat} {ret ret' : Option FieldType} {e : Env} {s s₁ : State} {m : MethodId} {args : Array Value} {below : List Frame} {meth : Method} {c : Code} {hh : List (Nat × Nat × Nat × Nat)}
    (B : BodyLoose p l y S cc maxL ret e s m args below meth c s₁) (h : (Cond.codeWith y bytes maxL' ret' hh).before args s = true) : c.exceptionTable.toList = tableOf hh := by
  obtain ⟨m9, meth9, c9, hn9, h1, h2, -, -, h6, -⟩ := Cond.codeWith_spec h
  cases Option.some.inj (hn9.symm.trans B.named)
  cases Option.some.inj (h1.symm.trans B.method)
  cases Option.some.inj (h2.symm.trans (Stand.of_body B).code)
  rw [← h6, table_eq]
end Bodies
end VXA
/-! ===== END ===== -/
/-! ===== BEGIN a static call of a method with an exception table ===== -/
section VXS
variable {p : Program} {l : Launch} {e : Env} {R : Room} {s : State} {m : MethodId} {args : Array Value} {below : List Frame} {meth : Method} {c : Code} {T : State} {H : Heap} {locs : List Loc} {cells slots : Nat}
abbrev vx_CSW (R : Room) (s : State) (args : Array Value) (own : String) (index : Nat) (y : MethodName) (bytes : ByteArray) (maxL : Nat) (ret : Option FieldType) (hh : List (Nat × Nat × Nat × Nat)) (ws : List Cond) (rm : Room) (mc ms n : Nat) : Prop :=
  (rm.cells = mc ∧ rm.slots = ms ∧ rm.frames + 1 ≤ R.frames ∧ 8 + (maxL + 11) + rm.locals ≤ R.locals ∧ (∀ w ∈ ws, ∀ (a' : Array Value) (U : State), s.WarmedH U.vm → w.before a' U = true) ∧ Cond.codeWith y bytes maxL ret hh ∈ ws) ∧
  (Cond.codeWith y bytes maxL ret hh).before args s = true ∧ (Cond.initialized y.cls).before args s = true ∧ (y.cls ≠ "java/lang/invoke/MethodHandle" ∧ y.cls ≠ "java/lang/invoke/VarHandle") ∧
  (∀ sig, parseMethodDescriptor y.desc = some sig → n = sig.parameters.length) ∧ (Cond.methodLink own index y).before args s = true ∧ (Cond.static y).before args s = true
theorem vx_cwSW {own : String} {index maxL mc ms : Nat} {y : MethodName} {bytes : ByteArray} {ret : Option FieldType} {hh : List (Nat × Nat × Nat × Nat)} {Ts ws ws' : List Cond} {rm : Room} (n : Nat) (ht : ∀ w ∈ Ts, w.before args s = true) (hT : GoodIn Ts (va_wsS own index y ws)) (hw : ws = Cond.codeWith y bytes maxL ret hh :: ws') (hrc : rm.cells = mc) (hrs : rm.slots = ms)
    (hd : y.cls ≠ "java/lang/invoke/MethodHandle" ∧ y.cls ≠ "java/lang/invoke/VarHandle" ∧ (parseMethodDescriptor y.desc).map (fun d => d.parameters.length) = some n) (hR : rm.frames + 1 ≤ R.frames ∧ 8 + (maxL + 11) + rm.locals ≤ R.locals) :
    vx_CSW R s args own index y bytes maxL ret hh ws rm mc ms n := by
  have ok : ∀ w ∈ va_wsS own index y ws, w.before args s = true := fun w h => ht w (hT w h).1
  have hG : GoodIn Ts ws := fun w h => hT w (by unfold va_wsS; exact List.mem_append_right _ h)
  have hc : Cond.codeWith y bytes maxL ret hh ∈ ws := by rw [hw]; exact List.mem_cons_self
  refine ⟨⟨hrc, hrs, hR.1, hR.2, pay_in ht hG, hc⟩, ht _ (hG _ hc).1, ok _ (by simp [va_wsS]), ⟨hd.1, hd.2.1⟩, fun sig h => ?_, ok _ (by simp [va_wsS]), ok _ (by simp [va_wsS])⟩
  have h2 := hd.2.2
  rw [h] at h2
  exact (Option.some.inj h2).symm
theorem vx_callSW (X : Stand p l e R s m args below meth c T locs cells slots) (hexec : p.tables.exec = Jvm.exec) {own : String} {index : Nat} {y : MethodName} {bytes : ByteArray} {maxL : Nat} {ret : Option FieldType} {hh : List (Nat × Nat × Nat × Nat)}
    (hown : s.vm.findClass own = some m.cls) (hlink : (Cond.methodLink own index y).before args s = true) (hstat : (Cond.static y).before args s = true) (hinit : (Cond.initialized y.cls).before args s = true)
    (hcode : (Cond.codeWith y bytes maxL ret hh).before args s = true) (hy : y.cls ≠ "java/lang/invoke/MethodHandle" ∧ y.cls ≠ "java/lang/invoke/VarHandle")
    {W9 : Nat} {Pre : Pt → Array Value → Prop} {Post : Pt → Array Value → Option Value → Pt → Prop} (hK : Back l R p e below s args y 3 W9 Pre Post)
    {g : JFrame} (hg : g.method = m) (hsize : g.locals.size = c.maxLocals) {argsL rest : List Value} (hlen : ∀ sig, parseMethodDescriptor y.desc = some sig → argsL.length = sig.parameters.length)
    (hstack : g.stack = argsL.reverse ++ rest) (hW : 2 * g.monitorRoom + (rest.map fun v => v.category).sum ≤ W9) (hdg : decode c.code g.pc = .ok (.invokestatic index, 3))
    (hpre : ∀ vm₁, s.WarmedH vm₁ → Pre ⟨T.setVm vm₁, locs, cells, slots⟩ argsL.toArray) :
    ∃ (v : Option Value) (vm₁ : Vm) (B : Pt), s.WarmedH vm₁ ∧ Stand p l e R s m args below meth c B.U B.locs B.cells B.slots ∧ Post ⟨T.setVm vm₁, locs, cells, slots⟩ argsL.toArray v B ∧
      ∀ target, Steps p.tables e below (B.U.setTop { g with pc := g.pc + 3, stack := v.toList ++ rest }) target → Steps p.tables e below (T.setTop g) target := by
  obtain ⟨mk, methM, cM, hnamed, hmethM, -, -, -, -, -, -, hsigM⟩ := Cond.codeWith_spec hcode
  have hstatic : methM.isStatic = true := Cond.static_spec hnamed hmethM hstat
  obtain ⟨kP, hkP, -⟩ := className_of_methodNamed hnamed
  have hinitP : kP.init = .initialized := Cond.initialized_spec (findClass_of_methodNamed hnamed) hkP hinit
  obtain ⟨vm₁, X₁, hstep₁⟩ := X.invokestatic hexec hown hlink hnamed hmethM hstatic hkP hinitP hy (g := g) hg (argsL := argsL) (rest := rest) (hlen _ hsigM) hstack hdg
  obtain ⟨v, B, X', hpost, hsteps⟩ := hK m meth c ⟨T.setVm vm₁, locs, cells, slots⟩ { g with stack := rest } (.invokestatic index) mk argsL.toArray X₁ hg hsize hdg hW (X₁.named hnamed) (hpre vm₁ X₁.warmed)
  exact ⟨v, vm₁, B, X₁.warmed, X', hpost, fun target h => hstep₁ _ fun acts => by rw [doInvoke_state]; exact hsteps.trans h⟩
theorem vx_runSW {y : MethodName} {bytes cc : ByteArray} {maxL nL mc ms n index : Nat} {ret : Option FieldType} {hh : List (Nat × Nat × Nat × Nat)} {ws : List Cond} {rm : Room} {Pc : Array Value → State → Prop} {Qc : Array Value → State → Outcome → State → Prop} {free : Addr → Prop} {Ts : List Cond} {own : String} {As rest : List Value} {g : JFrame}
    (S : CallFix p m c cc nL s args Ts own) (hM : Met l y ws rm Pc Qc mc ms free) (cw : vx_CSW R s args own index y bytes maxL ret hh ws rm mc ms n) (hp : PreS s H Pc As)
    (hg : g.method = m) (hn : As.length = n) (hsize : g.locals.size = nL) (hstack : g.stack = As.reverse ++ rest) (hW : 2 * g.monitorRoom + (rest.map fun v => v.category).sum ≤ 8) (hdg : decode cc g.pc = .ok (.invokestatic index, 3)) (hf : cells + mc ≤ R.cells ∧ slots + ms ≤ R.slots) :
    va_Run p l e R s m args below meth c H locs cells slots mc ms g rest (Qc As.toArray) (free) := by
  obtain ⟨⟨hrc, hrs, hfr, hlo, hws, hcw⟩, hcode, hini, hy, hlen, hl, hstt⟩ := cw
  have hK : Back l R p e below s args y 3 8 (PreOf R mc ms Pc) (PostOf Qc mc ms free) := va_backW (hh := hh) (bytes := bytes) (maxL := maxL) (ret := ret) hM hp.1 hrc hrs hfr hlo hws hcw (fun a' U hW => word_at hW (Or.inl (by first | rfl | simp [Cond.onTables, Cond.keeps, Cond.steady])) hini)
  obtain ⟨hx, hb, hml, ho, -⟩ := S
  intro T hT X
  obtain ⟨v, vm₁, ⟨U', l2, c2, s2⟩, hW₁, X', ⟨g', mk, t, L, e1, e2, hq, h1, hL, h2, h3⟩, st⟩ := vx_callSW X hx (hh := hh) (bytes := bytes) (maxL := maxL) (ret := ret) ho hl hstt hini hcode hy hK hg (hsize.trans hml.symm) (argsL := As) (rest := rest) (fun sig h => hn.trans (hlen sig h)) hstack hW (by rw [hb]; exact hdg)
    (fun vm₁ hW₁ => ⟨hf.1, hf.2, hp.2 (T.setVm vm₁) hT hW₁⟩)
  dsimp only [Pt.U, Pt.locs, Pt.cells, Pt.slots] at X' e1 e2 h1 h2 h3 st
  subst h1; subst h2; subst h3
  exact ⟨v, (T.setVm vm₁).calling g' mk As.toArray, t, U', L, hT, X', hL, e1, e2, hq, st⟩
/-- not caught here, past rows that name other classes: it goes on to the caller -/
theorem vx_outP {p : Program} {l : Launch} {e : Env} {R : Room} {s : State} {m : MethodId} {args : Array Value} {below : List Frame} {meth : Method} {c : Code} {H : Heap} {locs : List Loc} {cells slots : Nat} {free : Addr → Prop} {ls : Array Slot} {rest : List Value} {Qc : Array Value → State → Outcome → State → Prop} {XC : String → State → State → Prop}
    {pc : Nat} {own E : String} {ce : Cell} {q : Addr} {mc ms : Nat} (hown : s.vm.findClass own = some m.cls) (hlocks : meth.locks = false)
    (hpass : ∀ z ∈ c.exceptionTable.toList, covers z pc = false ∨ (z.catchType ≠ 0 ∧ ∃ nm : String, (Cond.classLink own z.catchType nm).before args s = true ∧ va_Nc E nm s)) (hcell : H[q]? = some ce) (hv : ce.vm = .none) (hcl : s.vm.findClass E = some ce.cls)
    (hx : ∀ t : State, t.heap = H → s.vm.Alike t.vm → XC E s t) (hf : ∀ z ∈ locs, free z.base) (hc : cells ≤ mc) (hs : slots ≤ ms) :
    vx_W p l e R s m args below meth c H locs cells slots (vx_MQ below Qc XC args s mc ms free) (F0 m pc ls rest) q := by
  intro T hT X
  have hpl : e.platform.magicAccessors = ({} : Platform).magicAccessors := by rw [X.admits.platform]
  obtain ⟨vm', hW', X', st⟩ := X.outThrough hlocks q (g := F0 m pc ls rest) rfl rfl rfl (cell := ce) (by rw [hT]; exact hcell) (by rw [hv]; rfl)
    (by obtain ⟨k9, h9, -⟩ := Vm.findClass_spec hcl; exact ⟨k9, h9⟩) (fun z hz => by
      rcases hpass z hz with h | ⟨hz0, nm, hl1, hn1⟩
      · exact Or.inl h
      · obtain ⟨c6, hc6, hcl6⟩ := Cond.classLink_spec hown hl1 e.platform hpl
        obtain ⟨a8, b8, h1, h2, h3⟩ := hn1
        cases Option.some.inj (h1.symm.trans hcl)
        cases Option.some.inj (h2.symm.trans hc6)
        exact Or.inr ⟨hz0, _, hcl6, h3⟩)
  obtain ⟨g₀, hfr⟩ := X'.frames_eq
  have hcell9 : ((T.setVm vm').setFrames (.throwing q :: below)).heap[q]? = some ce := by
    show T.heap[q]? = some ce
    rw [hT]; exact hcell
  have hend : Ended ((T.setVm vm').setFrames (.throwing q :: below)) below (.threw q) := State.frames_setFrames _ (State.cur_lt_of_frames hfr)
  refine ⟨(T.setVm vm').setFrames (.throwing q :: below), ?_, .threw q, X'.here.running, hend, Or.inr ⟨q, rfl, E, ce, locs, hx _ hT (X'.ends _).1.alike, hcell9, hv, hcl, (X'.ends _).1, (X'.ends _).2.mono hc hs, hf⟩⟩
  rw [X.pushThrowing_eq]
  exact st
/-- a thing of a world lies in the heap -/
theorem vx_lt {D : va_G} {cl : List vw_C} {ws : va_W} {H1 : Heap} (h : va_P D cl ws H1) {k : Nat} {q : Nat × va_E} (hk : ws[k]? = some q) : q.1 < H1.size := (h k q hk).lt
end VXS
/-! ===== END ===== -/
/-! ===== BEGIN methods with a table of their own: called by a name, returning or throwing ===== -/
section VXH
/-! vx_backW, vx_callVX, vx_callSX, vx_callVW, vx_runVW, vx_runVX, vx_runSX, vx_ofWH follow the same proofs as their sisters above (Free/Laws.lean, Shelf42/LK1.lean); vx_outP calls Shelf42/NT130.lean (outThrough). -/
section
variable {l : Launch} {R : Room} {p : Program} {e : Env} {below : List Frame} {s : State} {sargs : Array Value} {y : MethodName} {len W9 : Nat}
theorem vx_backW {ws : List Cond} {rm : Room} {Pc : Array Value → State → Prop} {Qc : Array Value → State → Outcome → State → Prop} {XC : String → State → State → Prop} {mc ms : Nat} {free : Addr → Prop} {bytes : ByteArray} {maxL : Nat} {ret : Option FieldType} {hh : List (Nat × Nat × Nat × Nat)}
    (hM : vx_Met l y ws rm Pc Qc XC mc ms free) (hblind : FrameBlind Pc) (hrc : rm.cells = mc) (hrs : rm.slots = ms)
    (hframes : rm.frames + 1 ≤ R.frames) (hlocals : W9 + (maxL + 11) + rm.locals ≤ R.locals)
    (hws : ∀ w ∈ ws, ∀ a' U, s.WarmedH U.vm → w.before a' U = true) (hcode : Cond.codeWith y bytes maxL ret hh ∈ ws) (hinit : ∀ a' U, s.WarmedH U.vm → (Cond.initialized y.cls).before a' U = true) :
    vx_Back l R p e below s sargs y len W9 (PreOf R mc ms Pc) (PostOf Qc mc ms free) (vx_Post XC mc ms free) := by
  intro m meth c A g ig mk a X hg hsize hdg hW hn hp
  have h1 : (headSpec ws rm).pre.before a A.U = true := atoms_intro fun w hw => hws w hw _ _ X.warmed
  have h2 : (Cond.codeWith y bytes maxL ret hh).before a A.U = true := hws _ hcode _ _ X.warmed
  have h3 : (Cond.initialized y.cls).before a A.U = true := hinit _ _ X.warmed
  have h4 : A.cells + (headSpec ws rm).room.cells ≤ R.cells := by rw [show (headSpec ws rm).room.cells = mc from hrc]; exact hp.1
  have h5 : A.slots + (headSpec ws rm).room.slots ≤ R.slots := by rw [show (headSpec ws rm).room.slots = ms from hrs]; exact hp.2.1
  have hPc : Pc a (A.U.calling g mk a) := hblind _ _ _ _ hp.2.2
  obtain ⟨U, Ls, c0, s0⟩ := A
  dsimp only [Pt.U, Pt.locs, Pt.cells, Pt.slots] at h1 h2 h3 h4 h5 X hn hPc ⊢
  obtain ⟨m9, methY, cY, hn9, hmY, hcY, -, hlY, -⟩ := Cond.codeWith_spec h2
  cases Option.some.inj (hn9.symm.trans hn)
  obtain ⟨kY, hkY, -⟩ := className_of_methodNamed hn
  have hinitY : kY.init = .initialized := Cond.initialized_spec (findClass_of_methodNamed hn) hkY h3
  have h : At U g.method c below := by rw [hg]; exact X.here
  have hlocals9 : W9 + (maxL + 11) + (headSpec ws rm).room.locals ≤ R.locals := hlocals
  have happ : (headSpec ws rm).appliesLoose y e.platform (U.calling g mk a) = true :=
    Spec.appliesLoose_calling (g := g) h hdg hn hkY hinitY
      (X.room_calling (g := g) (R' := (headSpec ws rm).room) hsize hmY hcY hframes (by rw [hlY]; omega) h4 h5) h1
  obtain ⟨mid, hmid⟩ := h.above
  have hfr : (U.setTop g).frames = (.java g :: mid) ++ below := by rw [State.frames_setTop' g h.top, hmid]; rfl
  obtain ⟨o, s₂, hsteps, -, hend, hq⟩ := Steps.callFree hM p X.admits X.cas X.clock (acts := []) hfr happ hPc trivial
  have hq' : vx_Q Qc XC mc ms free a (U.calling g mk a) o s₂ := hq
  rw [State.frames_setTop' g h.top] at hend
  obtain ⟨g₀, hg0⟩ := Option.isSome_iff_exists.mp h.top
  obtain ⟨r, hr⟩ := State.topJava?_eq_some.mp hg0
  have hr' : (({ U with heap := s₂.heap, slotsUsed := s₂.slotsUsed } : State).setVm s₂.vm).frames = .java g₀ :: r := hr
  rcases hq' with ⟨hqc, L, hfe, hL⟩ | ⟨q, rfl, E, ce, L, hx, hce, hcv, hcl, hW₂, hsm, hL⟩
  · obtain ⟨⟨v, rfl⟩, hW₂, e2, q2, q3, q4, q5, q6⟩ := id hfe
    have e3 : s₂ = ({ (U.calling g mk a).setFrames s₂.frames with heap := s₂.heap, slotsUsed := s₂.slotsUsed } : State).setVm s₂.vm := by
      have : s₂ = ({ s₂ with vm := (U.calling g mk a).vm } : State).setVm s₂.vm := rfl
      rw [e2] at this
      exact this
    obtain ⟨c₂, i₂, len₂, hc₂, hd₂, hf₂⟩ := hend
    have hW' : U.WarmedH s₂.vm := hW₂
    have hcc : c₂ = c := by
      have h1 : s₂.code? g.method = U.code? g.method := by
        rw [State.code?_eq, State.code?_eq, hW'.alike.method?]
      exact Option.some.inj (hc₂.symm.trans (h1.trans h.code))
    subst hcc
    have hlen : len₂ = len := by rw [hdg] at hd₂; cases hd₂; rfl
    subst hlen
    have hs₂ : s₂ = (({ U with heap := s₂.heap, slotsUsed := s₂.slotsUsed } : State).setVm s₂.vm).setTop { g with pc := g.pc + len₂, stack := v.toList ++ g.stack } := by
      refine e3.trans ?_
      rw [hf₂, State.calling_eq h.top, State.setFrames_setFrames, State.setTop_of_frames _ hr', hr]
      rfl
    have hsame : U.sameButNew ({ U with heap := s₂.heap, slotsUsed := s₂.slotsUsed } : State) L mc ms := by
      refine ⟨?_, q2, q3, q4, q5, q6⟩
      obtain ⟨t, ht, -⟩ := State.frames_cons hr
      show ({ U with heap := s₂.heap, slotsUsed := s₂.slotsUsed } : State) = { U.setFrames U.frames with heap := s₂.heap, slotsUsed := s₂.slotsUsed }
      rw [State.setFrames_self ht]
    subst hg
    refine Or.inl ⟨v, ⟨(({ U with heap := s₂.heap, slotsUsed := s₂.slotsUsed } : State).setVm s₂.vm), Ls ++ L, c0 + mc, s0 + ms⟩,
      ⟨X.admits, X.cas, X.clock, X.frames, X.room, X.hears, X.method, X.code, (X.here.setHeapUsed s₂.heap s₂.slotsUsed).setVm hW'.alike, X.tail, State.WarmedH.trans X.warmed hW', X.limits, X.bytes, X.same.trans (hsame.setVm s.vm)⟩,
      ⟨g, mk, s₂, L, rfl, rfl, hqc, rfl, hL, rfl, rfl⟩, ?_⟩
    show Steps p.tables e below _ ((({ U with heap := s₂.heap, slotsUsed := s₂.slotsUsed } : State).setVm s₂.vm).setTop { g with pc := g.pc + len₂, stack := v.toList ++ g.stack })
    rw [← hs₂]
    exact hsteps
  · obtain ⟨e2, q2, q3, q4, q5, q6⟩ := id hsm
    have e3 : s₂ = ({ (U.calling g mk a).setFrames s₂.frames with heap := s₂.heap, slotsUsed := s₂.slotsUsed } : State).setVm s₂.vm := by
      have : s₂ = ({ s₂ with vm := (U.calling g mk a).vm } : State).setVm s₂.vm := rfl
      rw [e2] at this
      exact this
    have hf₂ : s₂.frames = .throwing q :: .java g :: U.frames.tail := hend
    have hW' : U.WarmedH s₂.vm := hW₂
    have hs₂ : s₂ = ((({ U with heap := s₂.heap, slotsUsed := s₂.slotsUsed } : State).setVm s₂.vm).setTop g).pushFrame (.throwing q) := by
      refine e3.trans ?_
      rw [hf₂, State.calling_eq h.top, State.setFrames_setFrames, State.pushFrame, State.frames_setTop _ hr', State.setTop_of_frames _ hr', State.setFrames_setFrames, hr]
      rfl
    have hsame : U.sameButNew ({ U with heap := s₂.heap, slotsUsed := s₂.slotsUsed } : State) L mc ms := by
      refine ⟨?_, q2, q3, q4, q5, q6⟩
      obtain ⟨t, ht, -⟩ := State.frames_cons hr
      show ({ U with heap := s₂.heap, slotsUsed := s₂.slotsUsed } : State) = { U.setFrames U.frames with heap := s₂.heap, slotsUsed := s₂.slotsUsed }
      rw [State.setFrames_self ht]
    subst hg
    refine Or.inr ⟨q, ⟨(({ U with heap := s₂.heap, slotsUsed := s₂.slotsUsed } : State).setVm s₂.vm), Ls ++ L, c0 + mc, s0 + ms⟩,
      ⟨X.admits, X.cas, X.clock, X.frames, X.room, X.hears, X.method, X.code, (X.here.setHeapUsed s₂.heap s₂.slotsUsed).setVm hW'.alike, X.tail, State.WarmedH.trans X.warmed hW', X.limits, X.bytes, X.same.trans (hsame.setVm s.vm)⟩,
      ⟨g, mk, s₂, L, E, ce, rfl, rfl, hx, hce, hcv, hcl, rfl, hL, rfl, rfl⟩, ?_⟩
    show Steps p.tables e below _ (((({ U with heap := s₂.heap, slotsUsed := s₂.slotsUsed } : State).setVm s₂.vm).setTop g).pushFrame (.throwing q))
    rw [← hs₂]
    exact hsteps
end
variable {p : Program} {l : Launch} {e : Env} {R : Room} {s : State} {m : MethodId} {args : Array Value} {below : List Frame} {meth : Method} {c : Code} {T : State} {H : Heap} {locs : List Loc} {cells slots : Nat}
theorem vx_callVX (X : Stand p l e R s m args below meth c T locs cells slots) (hexec : p.tables.exec = Jvm.exec) {own C : String} {index : Nat} {y : MethodName} {bytes : ByteArray} {maxL : Nat} {ret : Option FieldType} {hh : List (Nat × Nat × Nat × Nat)}
    (hown : s.vm.findClass own = some m.cls) (hlink : (Cond.methodLink own index y).before args s = true) (hinst : (Cond.instanceMethod y).before args s = true) (hsel : (Cond.selects C y y).before args s = true)
    (hcode : (Cond.codeWith y bytes maxL ret hh).before args s = true) (hy : y.cls ≠ "java/lang/invoke/MethodHandle" ∧ y.cls ≠ "java/lang/invoke/VarHandle")
    {W9 : Nat} {Pre : Pt → Array Value → Prop} {Post : Pt → Array Value → Option Value → Pt → Prop} {PostX : Pt → Array Value → Addr → Pt → Prop} (hK : vx_Back l R p e below s args y 3 W9 Pre Post PostX)
    {b : Addr} {cellB : Cell} (hcell : T.heap[b]? = some cellB) (hobj : cellB.vm.isStatics = false) (hcls : s.vm.findClass C = some cellB.cls)
    {g : JFrame} (hg : g.method = m) (hsize : g.locals.size = c.maxLocals) {argsL rest : List Value} (hlen : ∀ sig, parseMethodDescriptor y.desc = some sig → argsL.length = sig.parameters.length)
    (hstack : g.stack = argsL.reverse ++ .ref b :: rest) (hW : 2 * g.monitorRoom + (rest.map fun v => v.category).sum ≤ W9) (hdg : decode c.code g.pc = .ok (.invokevirtual index, 3))
    (hpre : ∀ vm₁, s.WarmedH vm₁ → Pre ⟨T.setVm vm₁, locs, cells, slots⟩ (Value.ref b :: argsL).toArray) :
    (∃ (v : Option Value) (vm₁ : Vm) (B : Pt), s.WarmedH vm₁ ∧ Stand p l e R s m args below meth c B.U B.locs B.cells B.slots ∧ Post ⟨T.setVm vm₁, locs, cells, slots⟩ (Value.ref b :: argsL).toArray v B ∧
      ∀ target, Steps p.tables e below (B.U.setTop { g with pc := g.pc + 3, stack := v.toList ++ rest }) target → Steps p.tables e below (T.setTop g) target) ∨
    (∃ (q : Addr) (vm₁ : Vm) (B : Pt), s.WarmedH vm₁ ∧ Stand p l e R s m args below meth c B.U B.locs B.cells B.slots ∧ PostX ⟨T.setVm vm₁, locs, cells, slots⟩ (Value.ref b :: argsL).toArray q B ∧
      Steps p.tables e below (T.setTop g) ((B.U.setTop { g with stack := rest }).pushFrame (.throwing q))) := by
  obtain ⟨mk, methM, hnamed, hmethM, hstM, habM⟩ := Cond.instanceMethod_spec hinst
  obtain ⟨m8, methM', cM, hn8, hmethM', -, -, -, -, -, -, hsigM⟩ := Cond.codeWith_spec hcode
  cases Option.some.inj (hn8.symm.trans hnamed)
  cases hmethM.symm.trans hmethM'
  obtain ⟨c2, r2, m2, q1, q2, q3, q4, kP, hkP, hkPi⟩ := Cond.selects_spec hsel
  cases hcls.symm.trans q1
  cases (State.methodFound?_of_named hnamed hy).symm.trans q2
  cases hnamed.symm.trans q3
  have hselP : selectMethod e.platform s.vm cellB.cls mk = .method mk := by rw [Launch.admits_selectMethod X.admits]; exact q4
  obtain ⟨vm₁, X₁, hstep₁⟩ := X.invokevirtual hexec hown hlink hnamed hmethM hstM hkP hkPi hy (a := b) (cell := cellB) hcell
    (fun z h => by rw [h] at hobj; cases hobj) hselP hmethM habM hkP hkPi (g := g) hg (argsL := argsL) (rest := rest) (hlen _ hsigM) hstack hdg
  rcases hK m meth c ⟨T.setVm vm₁, locs, cells, slots⟩ { g with stack := rest } (.invokevirtual index) mk (Value.ref b :: argsL).toArray X₁ hg hsize hdg hW (X₁.named hnamed) (hpre vm₁ X₁.warmed) with ⟨v, B, X', hpost, hsteps⟩ | ⟨q, B, X', hpost, hsteps⟩
  · exact Or.inl ⟨v, vm₁, B, X₁.warmed, X', hpost, fun target h => hstep₁ _ fun acts => by rw [doInvoke_state]; exact hsteps.trans h⟩
  · exact Or.inr ⟨q, vm₁, B, X₁.warmed, X', hpost, hstep₁ _ fun acts => by rw [doInvoke_state]; exact hsteps⟩
theorem vx_callSX (X : Stand p l e R s m args below meth c T locs cells slots) (hexec : p.tables.exec = Jvm.exec) {own : String} {index : Nat} {y : MethodName} {bytes : ByteArray} {maxL : Nat} {ret : Option FieldType} {hh : List (Nat × Nat × Nat × Nat)}
    (hown : s.vm.findClass own = some m.cls) (hlink : (Cond.methodLink own index y).before args s = true) (hstat : (Cond.static y).before args s = true) (hinit : (Cond.initialized y.cls).before args s = true)
    (hcode : (Cond.codeWith y bytes maxL ret hh).before args s = true) (hy : y.cls ≠ "java/lang/invoke/MethodHandle" ∧ y.cls ≠ "java/lang/invoke/VarHandle")
    {W9 : Nat} {Pre : Pt → Array Value → Prop} {Post : Pt → Array Value → Option Value → Pt → Prop} {PostX : Pt → Array Value → Addr → Pt → Prop} (hK : vx_Back l R p e below s args y 3 W9 Pre Post PostX)
    {g : JFrame} (hg : g.method = m) (hsize : g.locals.size = c.maxLocals) {argsL rest : List Value} (hlen : ∀ sig, parseMethodDescriptor y.desc = some sig → argsL.length = sig.parameters.length)
    (hstack : g.stack = argsL.reverse ++ rest) (hW : 2 * g.monitorRoom + (rest.map fun v => v.category).sum ≤ W9) (hdg : decode c.code g.pc = .ok (.invokestatic index, 3))
    (hpre : ∀ vm₁, s.WarmedH vm₁ → Pre ⟨T.setVm vm₁, locs, cells, slots⟩ argsL.toArray) :
    (∃ (v : Option Value) (vm₁ : Vm) (B : Pt), s.WarmedH vm₁ ∧ Stand p l e R s m args below meth c B.U B.locs B.cells B.slots ∧ Post ⟨T.setVm vm₁, locs, cells, slots⟩ argsL.toArray v B ∧
      ∀ target, Steps p.tables e below (B.U.setTop { g with pc := g.pc + 3, stack := v.toList ++ rest }) target → Steps p.tables e below (T.setTop g) target) ∨
    (∃ (q : Addr) (vm₁ : Vm) (B : Pt), s.WarmedH vm₁ ∧ Stand p l e R s m args below meth c B.U B.locs B.cells B.slots ∧ PostX ⟨T.setVm vm₁, locs, cells, slots⟩ argsL.toArray q B ∧
      Steps p.tables e below (T.setTop g) ((B.U.setTop { g with stack := rest }).pushFrame (.throwing q))) := by
  obtain ⟨mk, methM, cM, hnamed, hmethM, -, -, -, -, -, -, hsigM⟩ := Cond.codeWith_spec hcode
  have hstatic : methM.isStatic = true := Cond.static_spec hnamed hmethM hstat
  obtain ⟨kP, hkP, -⟩ := className_of_methodNamed hnamed
  have hinitP : kP.init = .initialized := Cond.initialized_spec (findClass_of_methodNamed hnamed) hkP hinit
  obtain ⟨vm₁, X₁, hstep₁⟩ := X.invokestatic hexec hown hlink hnamed hmethM hstatic hkP hinitP hy (g := g) hg (argsL := argsL) (rest := rest) (hlen _ hsigM) hstack hdg
  rcases hK m meth c ⟨T.setVm vm₁, locs, cells, slots⟩ { g with stack := rest } (.invokestatic index) mk argsL.toArray X₁ hg hsize hdg hW (X₁.named hnamed) (hpre vm₁ X₁.warmed) with ⟨v, B, X', hpost, hsteps⟩ | ⟨q, B, X', hpost, hsteps⟩
  · exact Or.inl ⟨v, vm₁, B, X₁.warmed, X', hpost, fun target h => hstep₁ _ fun acts => by rw [doInvoke_state]; exact hsteps.trans h⟩
  · exact Or.inr ⟨q, vm₁, B, X₁.warmed, X', hpost, hstep₁ _ fun acts => by rw [doInvoke_state]; exact hsteps⟩
theorem vx_callVW (X : Stand p l e R s m args below meth c T locs cells slots) (hexec : p.tables.exec = Jvm.exec) {own C : String} {index : Nat} {y : MethodName} {bytes : ByteArray} {maxL : Nat} {ret : Option FieldType} {hh : List (Nat × Nat × Nat × Nat)}
    (hown : s.vm.findClass own = some m.cls) (hlink : (Cond.methodLink own index y).before args s = true) (hinst : (Cond.instanceMethod y).before args s = true) (hsel : (Cond.selects C y y).before args s = true)
    (hcode : (Cond.codeWith y bytes maxL ret hh).before args s = true) (hy : y.cls ≠ "java/lang/invoke/MethodHandle" ∧ y.cls ≠ "java/lang/invoke/VarHandle")
    {W9 : Nat} {Pre : Pt → Array Value → Prop} {Post : Pt → Array Value → Option Value → Pt → Prop} (hK : Back l R p e below s args y 3 W9 Pre Post)
    {b : Addr} {cellB : Cell} (hcell : T.heap[b]? = some cellB) (hobj : cellB.vm.isStatics = false) (hcls : s.vm.findClass C = some cellB.cls)
    {g : JFrame} (hg : g.method = m) (hsize : g.locals.size = c.maxLocals) {argsL rest : List Value} (hlen : ∀ sig, parseMethodDescriptor y.desc = some sig → argsL.length = sig.parameters.length)
    (hstack : g.stack = argsL.reverse ++ .ref b :: rest) (hW : 2 * g.monitorRoom + (rest.map fun v => v.category).sum ≤ W9) (hdg : decode c.code g.pc = .ok (.invokevirtual index, 3))
    (hpre : ∀ vm₁, s.WarmedH vm₁ → Pre ⟨T.setVm vm₁, locs, cells, slots⟩ (Value.ref b :: argsL).toArray) :
    ∃ (v : Option Value) (vm₁ : Vm) (B : Pt), s.WarmedH vm₁ ∧ Stand p l e R s m args below meth c B.U B.locs B.cells B.slots ∧ Post ⟨T.setVm vm₁, locs, cells, slots⟩ (Value.ref b :: argsL).toArray v B ∧
      ∀ target, Steps p.tables e below (B.U.setTop { g with pc := g.pc + 3, stack := v.toList ++ rest }) target → Steps p.tables e below (T.setTop g) target := by
  obtain ⟨mk, methM, hnamed, hmethM, hstM, habM⟩ := Cond.instanceMethod_spec hinst
  obtain ⟨m8, methM', cM, hn8, hmethM', -, -, -, -, -, -, hsigM⟩ := Cond.codeWith_spec hcode
  cases Option.some.inj (hn8.symm.trans hnamed)
  cases hmethM.symm.trans hmethM'
  obtain ⟨c2, r2, m2, q1, q2, q3, q4, kP, hkP, hkPi⟩ := Cond.selects_spec hsel
  cases hcls.symm.trans q1
  cases (State.methodFound?_of_named hnamed hy).symm.trans q2
  cases hnamed.symm.trans q3
  have hselP : selectMethod e.platform s.vm cellB.cls mk = .method mk := by rw [Launch.admits_selectMethod X.admits]; exact q4
  obtain ⟨vm₁, X₁, hstep₁⟩ := X.invokevirtual hexec hown hlink hnamed hmethM hstM hkP hkPi hy (a := b) (cell := cellB) hcell
    (fun z h => by rw [h] at hobj; cases hobj) hselP hmethM habM hkP hkPi (g := g) hg (argsL := argsL) (rest := rest) (hlen _ hsigM) hstack hdg
  obtain ⟨v, B, X', hpost, hsteps⟩ := hK m meth c ⟨T.setVm vm₁, locs, cells, slots⟩ { g with stack := rest } (.invokevirtual index) mk (Value.ref b :: argsL).toArray X₁ hg hsize hdg hW (X₁.named hnamed) (hpre vm₁ X₁.warmed)
  exact ⟨v, vm₁, B, X₁.warmed, X', hpost, fun target h => hstep₁ _ fun acts => by rw [doInvoke_state]; exact hsteps.trans h⟩
abbrev vx_CVW (R : Room) (s : State) (args : Array Value) (own C : String) (index : Nat) (y : MethodName) (bytes : ByteArray) (maxL : Nat) (ret : Option FieldType) (hh : List (Nat × Nat × Nat × Nat)) (ws : List Cond) (rm : Room) (mc ms n : Nat) : Prop :=
  (rm.cells = mc ∧ rm.slots = ms ∧ rm.frames + 1 ≤ R.frames ∧ 8 + (maxL + 11) + rm.locals ≤ R.locals ∧ (∀ w ∈ ws, ∀ (a' : Array Value) (U : State), s.WarmedH U.vm → w.before a' U = true) ∧ Cond.codeWith y bytes maxL ret hh ∈ ws) ∧
  (Cond.codeWith y bytes maxL ret hh).before args s = true ∧ (Cond.initialized y.cls).before args s = true ∧ (y.cls ≠ "java/lang/invoke/MethodHandle" ∧ y.cls ≠ "java/lang/invoke/VarHandle") ∧
  (∀ sig, parseMethodDescriptor y.desc = some sig → n = sig.parameters.length) ∧ (Cond.methodLink own index y).before args s = true ∧ (Cond.instanceMethod y).before args s = true ∧ (Cond.selects C y y).before args s = true
theorem vx_cwVW {own C : String} {index maxL mc ms : Nat} {y : MethodName} {bytes : ByteArray} {ret : Option FieldType} {hh : List (Nat × Nat × Nat × Nat)} {Ts ws ws' : List Cond} {rm : Room} (n : Nat) (ht : ∀ w ∈ Ts, w.before args s = true) (hT : GoodIn Ts (wsV own index C y ws)) (hw : ws = Cond.codeWith y bytes maxL ret hh :: ws') (hrc : rm.cells = mc) (hrs : rm.slots = ms)
    (hd : y.cls = C ∧ y.cls ≠ "java/lang/invoke/MethodHandle" ∧ y.cls ≠ "java/lang/invoke/VarHandle" ∧ (parseMethodDescriptor y.desc).map (fun d => d.parameters.length) = some n) (hR : rm.frames + 1 ≤ R.frames ∧ 8 + (maxL + 11) + rm.locals ≤ R.locals) :
    vx_CVW R s args own C index y bytes maxL ret hh ws rm mc ms n := by
  obtain ⟨hC, hd⟩ := hd
  subst hC
  have ok : ∀ w ∈ wsV own index y.cls y ws, w.before args s = true := fun w h => ht w (hT w h).1
  have hG : GoodIn Ts ws := fun w h => hT w (by unfold wsV; exact List.mem_append_right _ h)
  have hc : Cond.codeWith y bytes maxL ret hh ∈ ws := by rw [hw]; exact List.mem_cons_self
  refine ⟨⟨hrc, hrs, hR.1, hR.2, pay_in ht hG, hc⟩, ht _ (hG _ hc).1, ok _ (by simp [wsV]), ⟨hd.1, hd.2.1⟩, fun sig h => ?_, ok _ (by simp [wsV]), ok _ (by simp [wsV]), ok _ (by simp [wsV])⟩
  have h2 := hd.2.2
  rw [h] at h2
  exact (Option.some.inj h2).symm
theorem vx_runVW {y : MethodName} {bytes cc : ByteArray} {maxL nL mc ms n index : Nat} {ret : Option FieldType} {hh : List (Nat × Nat × Nat × Nat)} {ws : List Cond} {rm : Room} {Pc : Array Value → State → Prop} {Qc : Array Value → State → Outcome → State → Prop} {free : Addr → Prop} {Ts : List Cond} {own C : String} {b : Addr} {As rest : List Value} {g : JFrame}
    (S : CallFix p m c cc nL s args Ts own) (hM : Met l y ws rm Pc Qc mc ms free) (cw : vx_CVW R s args own C index y bytes maxL ret hh ws rm mc ms n) (hp : PreV s H C b Pc As)
    (hg : g.method = m) (hn : As.length = n) (hsize : g.locals.size = nL) (hstack : g.stack = As.reverse ++ .ref b :: rest) (hW : 2 * g.monitorRoom + (rest.map fun v => v.category).sum ≤ 8) (hdg : decode cc g.pc = .ok (.invokevirtual index, 3)) (hf : cells + mc ≤ R.cells ∧ slots + ms ≤ R.slots) :
    va_Run p l e R s m args below meth c H locs cells slots mc ms g rest (Qc (Value.ref b :: As).toArray) free := by
  obtain ⟨⟨hrc, hrs, hfr, hlo, hws, hcw⟩, hcode, hini, hy, hlen, hl, hin, hse⟩ := cw
  have hK : Back l R p e below s args y 3 8 (PreOf R mc ms Pc) (PostOf Qc mc ms free) := va_backW (hh := hh) (bytes := bytes) (maxL := maxL) (ret := ret) hM hp.1 hrc hrs hfr hlo hws hcw (fun a' U hW => word_at hW (Or.inl (by first | rfl | simp [Cond.onTables, Cond.keeps, Cond.steady])) hini)
  obtain ⟨hx, hb, hml, ho, -⟩ := S
  obtain ⟨-, ⟨cellB, hcB, hoB, hclB⟩, hPc⟩ := hp
  intro T hT X
  obtain ⟨v, vm₁, ⟨U', l2, c2, s2⟩, hW₁, X', ⟨g', mk, t, L, e1, e2, hq, h1, hL, h2, h3⟩, st⟩ := vx_callVW X hx (C := C) (hh := hh) (bytes := bytes) (maxL := maxL) (ret := ret) ho hl hin hse hcode hy hK (by rw [hT]; exact hcB) hoB hclB hg (hsize.trans hml.symm) (argsL := As) (rest := rest) (fun sig h => hn.trans (hlen sig h)) hstack hW (by rw [hb]; exact hdg)
    (fun vm₁ hW₁ => ⟨hf.1, hf.2, hPc (T.setVm vm₁) hT hW₁⟩)
  dsimp only [Pt.U, Pt.locs, Pt.cells, Pt.slots] at X' e1 e2 h1 h2 h3 st
  subst h1; subst h2; subst h3
  exact ⟨v, (T.setVm vm₁).calling g' mk (Value.ref b :: As).toArray, t, U', L, hT, X', hL, e1, e2, hq, st⟩
section
variable {y : MethodName} {bytes cc : ByteArray} {maxL nL mc ms n index : Nat} {ret : Option FieldType} {ws : List Cond} {rm : Room} {Pc : Array Value → State → Prop} {Qc : Array Value → State → Outcome → State → Prop} {XC : String → State → State → Prop} {free : Addr → Prop} {Ts : List Cond} {own C : String} {b : Addr} {As rest : List Value} {g : JFrame}
theorem vx_runVX {hh : List (Nat × Nat × Nat × Nat)} (S : CallFix p m c cc nL s args Ts own) (hM : vx_Met l y ws rm Pc Qc XC mc ms free) (cw : vx_CVW R s args own C index y bytes maxL ret hh ws rm mc ms n) (hp : PreV s H C b Pc As)
    (hg : g.method = m) (hn : As.length = n) (hsize : g.locals.size = nL) (hstack : g.stack = As.reverse ++ .ref b :: rest) (hW : 2 * g.monitorRoom + (rest.map fun v => v.category).sum ≤ 8) (hdg : decode cc g.pc = .ok (.invokevirtual index, 3)) (hf : cells + mc ≤ R.cells ∧ slots + ms ≤ R.slots) :
    vx_Run p l e R s m args below meth c H locs cells slots mc ms g rest (Qc (Value.ref b :: As).toArray) XC free := by
  obtain ⟨⟨hrc, hrs, hfr, hlo, hws, hcw⟩, hcode, hini, hy, hlen, hl, hin, hse⟩ := cw
  have hK : vx_Back l R p e below s args y 3 8 (PreOf R mc ms Pc) (PostOf Qc mc ms free) (vx_Post XC mc ms free) := vx_backW (hh := hh) (bytes := bytes) (maxL := maxL) (ret := ret) hM hp.1 hrc hrs hfr hlo hws hcw (fun a' U hW => word_at hW (Or.inl (by first | rfl | simp [Cond.onTables, Cond.keeps, Cond.steady])) hini)
  obtain ⟨hx, hb, hml, ho, -⟩ := S
  obtain ⟨-, ⟨cellB, hcB, hoB, hclB⟩, hPc⟩ := hp
  intro T hT X
  rcases vx_callVX X hx (C := C) (hh := hh) (bytes := bytes) (maxL := maxL) (ret := ret) ho hl hin hse hcode hy hK (by rw [hT]; exact hcB) hoB hclB hg (hsize.trans hml.symm) (argsL := As) (rest := rest) (fun sig h => hn.trans (hlen sig h)) hstack hW (by rw [hb]; exact hdg)
    (fun vm₁ hW₁ => ⟨hf.1, hf.2, hPc (T.setVm vm₁) hT hW₁⟩) with ⟨v, vm₁, ⟨U', l2, c2, s2⟩, hW₁, X', ⟨g', mk, t, L, e1, e2, hq, h1, hL, h2, h3⟩, st⟩ | ⟨q, vm₁, ⟨U', l2, c2, s2⟩, hW₁, X', ⟨g', mk, t, L, E, ce, e1, e2, hq, hce, hcv, hcl, h1, hL, h2, h3⟩, st⟩
  · dsimp only [Pt.U, Pt.locs, Pt.cells, Pt.slots] at X' e1 e2 h1 h2 h3 st
    subst h1; subst h2; subst h3
    exact Or.inl ⟨v, (T.setVm vm₁).calling g' mk (Value.ref b :: As).toArray, t, U', L, hT, X', hL, e1, e2, hq, st⟩
  · dsimp only [Pt.U, Pt.locs, Pt.cells, Pt.slots] at X' e1 e2 h1 h2 h3 st hcl
    subst h1; subst h2; subst h3
    exact Or.inr ⟨q, (T.setVm vm₁).calling g' mk (Value.ref b :: As).toArray, t, U', L, E, ce, hT, X', hL, e1, e2, hq, hce, hcv, vx_cls hW₁ hcl, st⟩
theorem vx_runSX {hh : List (Nat × Nat × Nat × Nat)} (S : CallFix p m c cc nL s args Ts own) (hM : vx_Met l y ws rm Pc Qc XC mc ms free) (cw : vx_CSW R s args own index y bytes maxL ret hh ws rm mc ms n) (hp : PreS s H Pc As)
    (hg : g.method = m) (hn : As.length = n) (hsize : g.locals.size = nL) (hstack : g.stack = As.reverse ++ rest) (hW : 2 * g.monitorRoom + (rest.map fun v => v.category).sum ≤ 8) (hdg : decode cc g.pc = .ok (.invokestatic index, 3)) (hf : cells + mc ≤ R.cells ∧ slots + ms ≤ R.slots) :
    vx_Run p l e R s m args below meth c H locs cells slots mc ms g rest (Qc As.toArray) XC free := by
  obtain ⟨⟨hrc, hrs, hfr, hlo, hws, hcw⟩, hcode, hini, hy, hlen, hl, hstt⟩ := cw
  have hK : vx_Back l R p e below s args y 3 8 (PreOf R mc ms Pc) (PostOf Qc mc ms free) (vx_Post XC mc ms free) := vx_backW (hh := hh) (bytes := bytes) (maxL := maxL) (ret := ret) hM hp.1 hrc hrs hfr hlo hws hcw (fun a' U hW => word_at hW (Or.inl (by first | rfl | simp [Cond.onTables, Cond.keeps, Cond.steady])) hini)
  obtain ⟨hx, hb, hml, ho, -⟩ := S
  intro T hT X
  rcases vx_callSX X hx (hh := hh) (bytes := bytes) (maxL := maxL) (ret := ret) ho hl hstt hini hcode hy hK hg (hsize.trans hml.symm) (argsL := As) (rest := rest) (fun sig h => hn.trans (hlen sig h)) hstack hW (by rw [hb]; exact hdg)
    (fun vm₁ hW₁ => ⟨hf.1, hf.2, hp.2 (T.setVm vm₁) hT hW₁⟩) with ⟨v, vm₁, ⟨U', l2, c2, s2⟩, hW₁, X', ⟨g', mk, t, L, e1, e2, hq, h1, hL, h2, h3⟩, st⟩ | ⟨q, vm₁, ⟨U', l2, c2, s2⟩, hW₁, X', ⟨g', mk, t, L, E, ce, e1, e2, hq, hce, hcv, hcl, h1, hL, h2, h3⟩, st⟩
  · dsimp only [Pt.U, Pt.locs, Pt.cells, Pt.slots] at X' e1 e2 h1 h2 h3 st
    subst h1; subst h2; subst h3
    exact Or.inl ⟨v, (T.setVm vm₁).calling g' mk As.toArray, t, U', L, hT, X', hL, e1, e2, hq, st⟩
  · dsimp only [Pt.U, Pt.locs, Pt.cells, Pt.slots] at X' e1 e2 h1 h2 h3 st hcl
    subst h1; subst h2; subst h3
    exact Or.inr ⟨q, (T.setVm vm₁).calling g' mk As.toArray, t, U', L, E, ce, hT, X', hL, e1, e2, hq, hce, hcv, vx_cls hW₁ hcl, st⟩
end
end VXH
theorem vx_ofWH {l : Launch} {y : MethodName} {ws ws' : List Cond} {rm : Room} {Pc : Array Value → State → Prop} {Qc : Array Value → State → Outcome → State → Prop} {XC : String → State → State → Prop} {mc ms : Nat} {free : Addr → Prop} {cc : ByteArray} {maxL : Nat} {ret : Option FieldType} {hh : List (Nat × Nat × Nat × Nat)}
    (hy : plainName y.cls = true) (hw : ws = Cond.codeWith y cc maxL ret hh :: ws')
    (body : ∀ p e s m args below meth c s₁, BodyLoose p l y (headSpec ws rm) cc maxL ret e s m args below meth c s₁ → c.maxLocals = maxL → Pc args s →
      W p l e (headSpec ws rm).room s m args below meth c s.heap [] 0 0 (vx_MQ below Qc XC args s mc ms free) (entryFrame m args maxL)) : vx_Met l y ws rm Pc Qc XC mc ms free := by
  refine MetFree.of_bodyS (code := cc) (maxLocals := maxL) (ret := ret) hy ?_ ?_
  · intro args s m h hn
    obtain ⟨m9, meth, c, hn9, h1, h2, h3, h4, -, h5, h6, -⟩ := Cond.codeWith_spec (atoms_spec (ws := ws) h _ (by rw [hw]; exact List.mem_cons_self))
    cases hn.symm.trans hn9
    exact ⟨meth, c, h1, h2, h3, h4, h5, h6⟩
  · intro p e s m args below meth c s₁ B hml hP _
    have hh0 : s₁.heap = s.heap := by rw [B.state]; rfl
    obtain ⟨t, a1, o, b1, b2, b3⟩ := body p e s m args below meth c s₁ B hml hP s₁ hh0 (Stand.of_body B)
    exact ⟨t, o, a1, b1, b2, b3⟩
/-! ===== END ===== -/

/-! ===== BEGIN what the machine throws by itself, no traces kept ===== -/
section VXM
set_option maxHeartbeats 1000000 in
/-- the machine throws cls with the message text, no traces kept: from its note over the frame g to 'throwing' over the same frame (follows the proofs of Stand.vmThrowsMessage, Shelf/KitTracedVmS.lean, and Stand.throwsMessageColdBareV, StandMessageColdV.lean, without the step out of the frame) -/
theorem vx_vmAt {p : Program} {l : Launch} {e : Env} {R : Room} {s : State} {m₀ : MethodId} {args : Array Value} {below : List Frame} {meth : Method} {c : Code} {W : State} {locs : List Loc} {cells slots : Nat}
    (X : Stand p l e R s m₀ args below meth c W locs cells slots) (hexec : p.tables.exec = Jvm.exec) (htr : e.platform.stackTraces = false) {cls : String} {names : List String} {text : String}
    (hcls : Bundle.fit cls = true) (hnames : ∀ n ∈ names, Bundle.fit n = true) (hsoe : (cls == "java/lang/StackOverflowError") = false) (hoom : (cls == "java/lang/OutOfMemoryError") = false)
    (h : ∀ a ∈ Bundle.messageArmAtoms cls names, a.before args s = true)
    (hlocs : ∀ x ∈ locs, ∀ cell, s.heap[x.base]? = some cell → cell.vm.isStatics = false)
    (htext : (text == notModelled) = false) (hlimit : ¬ (stringBytes (stringToUtf16 text)).size > e.platform.arrayLengthLimit) (hheap : ¬ (stringBytes (stringToUtf16 text)).size * componentBytes .byte > e.platform.maxHeapBytes)
    {g : JFrame} (hg : g.method = m₀) (hsize : g.locals.size = c.maxLocals)
    (hRframes : names.length + 4 < R.frames) (hRlocals : 2 * g.monitorRoom + (g.stack.map fun v => v.category).sum + 10240 ≤ R.locals) (hshort : 13 * names.length + 55 ≤ 10240)
    (hRcells : cells + 3 ≤ R.cells) (hRslots : slots + ((stringBytes (stringToUtf16 text)).size + 4 + 6) ≤ R.slots) (hlocks : meth.locks = false) :
    ∃ (S : State) (q : Addr) (ce : Cell), (∀ target, Steps p.tables e below ((S.setTop g).pushFrame (.throwing q)) target → Steps p.tables e below ((W.setTop g).pushFrame (.throwNew cls (some text) none)) target) ∧
      Stand p l e R s m₀ args below meth c S locs (cells + 3) (slots + ((stringBytes (stringToUtf16 text)).size + 4 + 6)) ∧ S.heap[q]? = some ce ∧ s.vm.findClass cls = some ce.cls ∧ ce.vm = .none := by
  have howns : e.platform.frameOwnsMonitors = true := by rw [X.admits.platform]
  have hfin : e.platform.finalization = false := by rw [X.admits.platform]
  have hpl : e.platform.magicAccessors = ({} : Platform).magicAccessors := by rw [X.admits.platform]
  have a : ∀ x, x ∈ Bundle.messageArmAtoms cls names → x.holds args s none s [] = true := fun x hx => h x hx
  obtain ⟨T, Z0, L, -, Y⟩ := ThrowableC.of_atoms (args := args) howns hfin hpl (fun x hx => h x (by simp [Bundle.messageArmAtoms, hx]))
  obtain ⟨Z, M, LZ, LM, hnZ⟩ := Init0T.ofS_atoms (args := args) hpl L Y (fun x hx => h x (by simp [Bundle.messageArmAtoms, hx]))
  obtain ⟨P1, Ps, hlen, L1, hL, hP1m, hlink1, hlink⟩ := Bundle.chainS (args := args) hpl hnZ names cls hcls hnames (fun x hx => h x (by simp [Bundle.messageArmAtoms, hx]))
  obtain ⟨Zs, LZs, hn4, hfitv, hfitc⟩ := StringT.of_atoms (args := args) (fun x hx => h x (by simp [Bundle.messageArmAtoms, hx]))
  have hfound : s.vm.findClass cls = some P1.m.cls := findClass_of_methodNamed hP1m
  obtain ⟨c1, kX, hc1, hk, hord, -, -, hn6⟩ := Cond.instantiable_spec (a (.instantiable cls 6) (by simp [Bundle.messageArmAtoms]))
  cases Option.some.inj (hc1.symm.trans hfound)
  have hinit := Cond.initialized_spec hfound hk (a (.initialized cls) (by simp [Bundle.messageArmAtoms]))
  have hctor : kX.findMethod "<init>" "(Ljava/lang/String;)V" = some P1.m.idx := findMethod_of_methodNamed hP1m hk
  have hsel0 : selectMethod e.platform s.vm P1.m.cls T.fill0 = .method T.fill0 := by
    obtain ⟨c2, r2, m2, q1, q2, q3, q4, -⟩ := Cond.selects_spec (a (.selects cls Bundle.tFill0 Bundle.tFill0) (by simp [Bundle.messageArmAtoms]))
    cases Option.some.inj (q1.symm.trans hfound)
    cases Option.some.inj (q2.symm.trans (State.methodFound?_of_named Y.fill0 (by decide)))
    cases Option.some.inj (q3.symm.trans Y.fill0)
    rw [Launch.admits_selectMethod X.admits]; exact q4
  have hselF : selectMethod e.platform s.vm P1.m.cls T.fill = .method T.fill := by
    obtain ⟨c2, r2, m2, q1, q2, q3, q4, -⟩ := Cond.selects_spec (a (.selects cls Bundle.tFill Bundle.tFill) (by simp [Bundle.messageArmAtoms]))
    cases Option.some.inj (q1.symm.trans hfound)
    cases Option.some.inj (q2.symm.trans (State.methodFound?_of_named Y.fill (by decide)))
    cases Option.some.inj (q3.symm.trans Y.fill)
    rw [Launch.admits_selectMethod X.admits]; exact q4
  obtain ⟨cellS0, hcS0, hiss⟩ := Y.statics
  obtain ⟨u0, hu0⟩ := Cond.staticRefV Y.unassigned L.unassignedStatic L.statics hcS0 hiss (a (.isRef (.static Bundle.tN "UNASSIGNED_STACK" Bundle.steD)) (by simp [Bundle.messageArmAtoms]))
  obtain ⟨sen, hsen⟩ := Cond.staticRefV Y.sentinel L.sentinelStatic L.statics hcS0 hiss (a (.isRef (.static Bundle.tN "SUPPRESSED_SENTINEL" Bundle.listD)) (by simp [Bundle.messageArmAtoms]))
  obtain ⟨ci198, i198, fB, hk198, hg198, ha198, hsB, -, hnB, htB, hffB⟩ := Cond.ownField (t := .object "java/lang/Object") Y.found L.cls (by decide +kernel) (a (.fieldLink Bundle.tN 198 Bundle.tN "backtrace" "Ljava/lang/Object;") (by simp [Bundle.messageArmAtoms])) (a (.lays Bundle.tN Bundle.tN "backtrace" "Ljava/lang/Object;") (by simp [Bundle.messageArmAtoms])) e.platform hpl
  obtain ⟨cellS, hcS', heS, -, hkeep⟩ := X.same.2.2.2.2.2 T.aS cellS0 hcS0
  have hcellS : W.heap[T.aS]? = some cellS := hcS'
  have hout' : ∀ i, (⟨T.aS, i⟩ : Loc) ∉ locs := fun i hmem => by
    have := hlocs _ hmem cellS0 hcS0
    rw [hiss] at this; cases this
  have hknownS : cellS.vm ≠ .unknown := by
    rw [heS]; intro hu
    rw [show cellS0.vm = .unknown from hu] at hiss
    cases hiss
  have hvU : cellS.slots[T.fUnassigned.slot]? = some u0.v := by rw [hkeep _ (hout' _)]; exact hu0
  have hvSen : cellS.slots[T.fSentinel.slot]? = some sen.v := by rw [hkeep _ (hout' _)]; exact hsen
  obtain ⟨iM, hffM⟩ := Y.msg
  obtain ⟨tyC, dC, hdC, hdnC⟩ := Cond.laysAt hfound hk Y.cause (a (.lays cls Bundle.tN "cause" "Ljava/lang/Throwable;") (by simp [Bundle.messageArmAtoms]))
  obtain ⟨tyS, dS, hdS, hdnS⟩ := Cond.laysAt hfound hk Y.stack (a (.lays cls Bundle.tN "stackTrace" Bundle.steD) (by simp [Bundle.messageArmAtoms]))
  obtain ⟨tyP, dP, hdP, hdnP⟩ := Cond.laysAt hfound hk Y.supp (a (.lays cls Bundle.tN "suppressedExceptions" Bundle.listD) (by simp [Bundle.messageArmAtoms]))
  obtain ⟨tyM, dM, hdM, hdnM⟩ := Cond.laysAt hfound hk hffM (a (.lays cls Bundle.tN "detailMessage" "Ljava/lang/String;") (by simp [Bundle.messageArmAtoms]))
  obtain ⟨tyB, dB, hdB, hdnB⟩ := Cond.laysAt hfound hk hffB (a (.lays cls Bundle.tN "backtrace" "Ljava/lang/Object;") (by simp [Bundle.messageArmAtoms]))
  have bC := Cond.laysApart hdB hdC hdnB hdnC (by rw [hnB, Y.causeName]; decide)
  have bS := Cond.laysApart hdB hdS hdnB hdnS (by rw [hnB, Y.stackName]; decide)
  have bP := Cond.laysApart hdB hdP hdnB hdnP (by rw [hnB, Y.suppName]; decide)
  have hbk : ((preparedCellV T.toThrowableT (freshCell P1.m.cls kX) (W.heap.size + 2) u0 sen).withEntry W.cur).slots[fB.slot]? = some .null := by
    have := fresh_default (c := P1.m.cls) tyB
    rw [htB] at this
    simpa [preparedCellV, Cell.setSlot, Cell.withEntry, Array.getElem?_setIfInBounds, bC, bS, bP, bC.symm, bS.symm, bP.symm, defaultValue] using this
  have tkC := Takes.of_laid (v := .ref (W.heap.size + 2)) hk hord tyC (by rw [Y.causeType]; rfl)
  have tkS := Takes.of_laid (v := u0.v) hk hord tyS (by rw [Y.stackType]; exact fits_refV_array _ u0)
  have tkP := Takes.of_laid (v := sen.v) hk hord tyP (by rw [Y.suppType]; exact fits_refV_object _ sen)
  have tkM := Takes.of_laid (v := .ref (W.heap.size + 1)) hk hord tyM (by rw [Y.msgType]; rfl)
  have hskip : SkipFacts T e.platform s (fun u => u) u0 ((preparedCellV T.toThrowableT (freshCell P1.m.cls kX) (W.heap.size + 2) u0 sen).withEntry W.cur) := ⟨{ ci198 := ci198, i198 := i198, fBack := fB }, ⟨hk198, hg198, ha198, hsB⟩, hbk, fun _ _ => rfl⟩
  have h0 : At W g.method c below := by rw [hg]; exact X.here
  obtain ⟨hbeyond, hfreeW⟩ := X.vmMayThrow hsize (.throwNew cls (some text) none) (fun f hf => by cases hf) rfl hRlocals
  have hfr' : W.frames.length + Ps.length + 4 < (e.platform.stackLimits W.me).1 := by have := X.framesAbove hRframes; omega
  have hwd' : (stackUse (.java g :: W.frames.tail)).2 + 13 * Ps.length + 55 ≤ (e.platform.stackLimits W.me).2 := by have := X.stackAbove hsize (K := 13 * Ps.length + 55) (by omega); omega
  have hslots : W.slotsUsed + (stringBytes (stringToUtf16 text)).size + Zs.kS.instanceTypes.size + kX.instanceTypes.size ≤ e.platform.maxSlots := by
    have := X.slotsAbove hRslots
    rw [hn4, hn6]
    omega
  obtain ⟨vm', hW', st⟩ := Steps.vmThrowsMessageColdByV p (s₀ := s) (S := W) (g := g) h0 hexec T L Z LZ M LM X.warmed (t := W.cur) rfl Zs LZs P1 L1 Ps hL hlink1 hlink hsoe hoom hfound hk hinit hord hctor
    (Launch.admits_hotImplicitExceptions X.admits) hbeyond hfreeW htext hlimit hheap (X.cellsAbove hRcells) hslots (hfitv _) (hfitc _)
    (Nn := fun u => u) heapOnly_id (fun _ _ => rfl) (fun _ => rfl) (fun u x y => setCell_twice _ _ _ _) (fun _ => Nat.le_refl _) (cN := ((preparedCellV T.toThrowableT (freshCell P1.m.cls kX) (W.heap.size + 2) u0 sen).withEntry W.cur))
    hsel0 hcellS hknownS hvU tkS (fun _ hu => hu) (fun _ hu => hu) rfl rfl rfl (by simp [preparedCellV, Cell.setSlot, Cell.withEntry]) hskip (fun _ _ hA hW _ hroom _ hrest => L.nativeOff p htr hA hW hroom hrest) hselF hvSen tkC tkP tkM Y.objLocals rfl hfr' hwd'
  rw [plainBareV_eq T.toThrowableT (W.heap.size + 2) u0 sen (.ref (W.heap.size + 1)) W.cur rfl rfl] at st
  obtain ⟨-, -, w3, w4, -, -, -⟩ := withThrown_facts e.platform W Zs text P1.m.cls kX
  have X3 := ((X.pushed (bytesOf Zs.cB (stringToUtf16 text))).pushed (stringAt Zs.cS Zs.kS Zs.fv Zs.fc (stringToUtf16 text) W.heap.size)).pushed (freshCell P1.m.cls kX)
  rw [← withString_eq] at X3
  have X4 := X3.noted hW'
  have ha : (W.heap.size + 2) < ((withThrown W Zs text P1.m.cls kX).setVm vm').heap.size := by show _ < (withThrown W Zs text P1.m.cls kX).heap.size; rw [w3]; omega
  have hcell : ((withThrown W Zs text P1.m.cls kX).setVm vm').heap[(W.heap.size + 2)]? = some (freshCell P1.m.cls kX) := w4
  have X5 := ((((X4.stored hcell T.fCause.slot (.ref (W.heap.size + 2))).storedAgain ha T.fStack.slot u0.v).storedAgain ha T.fSupp.slot sen.v).storedAgain ha T.fStack.slot u0.v).storedAgain ha T.fMsg.slot (.ref (W.heap.size + 1))
  obtain ⟨g₁, hfrM⟩ := X5.frames_eq
  have hU : ((((withThrown W Zs text P1.m.cls kX).setVm vm').setCell (W.heap.size + 2) (plainBareV T.toThrowableT (freshCell P1.m.cls kX) (W.heap.size + 2) u0 sen (.ref (W.heap.size + 1)))).setTop g).pushFrame (.throwing (W.heap.size + 2)) = (((withThrown W Zs text P1.m.cls kX).setVm vm').setCell (W.heap.size + 2) (plainBareV T.toThrowableT (freshCell P1.m.cls kX) (W.heap.size + 2) u0 sen (.ref (W.heap.size + 1)))).setFrames (.throwing (W.heap.size + 2) :: .java g :: below) := by
    rw [State.pushFrame, State.frames_setTop _ hfrM, State.setTop_of_frames _ hfrM, State.setFrames_setFrames]
  have b1 : (bytesOf Zs.cB (stringToUtf16 text)).slots.size = (stringBytes (stringToUtf16 text)).size := by
    rw [(Cell.writeAll_facts _ _).2.2]; simp [bytes0]
  have b2 : (stringAt Zs.cS Zs.kS Zs.fv Zs.fc (stringToUtf16 text) W.heap.size).slots.size = 4 := by simp [string0, Cell.setSlot, hn4]
  have b3 : (freshCell P1.m.cls kX).slots.size = 6 := by simp [hn6]
  rw [b1, b2, b3] at X5
  have e9 : slots + (stringBytes (stringToUtf16 text)).size + 4 + 6 = slots + ((stringBytes (stringToUtf16 text)).size + 4 + 6) := by omega
  rw [e9] at X5
  simp only [List.append_assoc, List.cons_append, List.nil_append] at X5
  refine ⟨((withThrown W Zs text P1.m.cls kX).setVm vm').setCell (W.heap.size + 2) (plainBareV T.toThrowableT (freshCell P1.m.cls kX) (W.heap.size + 2) u0 sen (.ref (W.heap.size + 1))), W.heap.size + 2, _, fun target ht => st _ (by rw [X.tail, ← hU]; exact ht),
    X5.forget (fun y hy => ?_), heapAt_setCell_self _ ha, hfound, rfl⟩
  simp only [List.mem_cons, List.not_mem_nil, or_false] at hy
  have hge : s.heap.size ≤ W.heap.size := X.same.2.1
  rcases hy with rfl | rfl | rfl | rfl | rfl <;> exact Nat.le_trans hge (Nat.le_add_right _ 2)
set_option maxHeartbeats 1000000 in
/-- the machine throws NullPointerException, no traces kept: from its note over the frame g to 'throwing' over the same frame (follows the proof of Stand.vmThrowsNpe, Shelf42/KT2.lean; throwsNpeColdBareVAt, Shelf42/NT91.lean, called) -/
theorem vx_npeAt {p : Program} {l : Launch} {e : Env} {R : Room} {s : State} {m₀ : MethodId} {args : Array Value} {below : List Frame} {meth : Method} {c : Code} {W : State} {locs : List Loc} {cells slots : Nat}
    (X : Stand p l e R s m₀ args below meth c W locs cells slots) (hexec : p.tables.exec = Jvm.exec) (htr : e.platform.stackTraces = false) {n : Nat}
    (h : ∀ a ∈ Bundle.npeArmAtoms n, a.before args s = true)
    (hlocs : ∀ x ∈ locs, ∀ cell, s.heap[x.base]? = some cell → cell.vm.isStatics = false)
    {g : JFrame} (hg : g.method = m₀) (hsize : g.locals.size = c.maxLocals)
    (hRframes : 7 < R.frames) (hRlocals : 2 * g.monitorRoom + (g.stack.map fun v => v.category).sum + 10240 ≤ R.locals)
    (hRcells : cells + 1 ≤ R.cells) (hRslots : slots + n ≤ R.slots) (hlocks : meth.locks = false) :
    ∃ (S : State) (q : Addr) (ce : Cell), (∀ target, Steps p.tables e below ((S.setTop g).pushFrame (.throwing q)) target → Steps p.tables e below ((W.setTop g).pushFrame (.throwNew "java/lang/NullPointerException" none none)) target) ∧
      Stand p l e R s m₀ args below meth c S locs (cells + 1) (slots + n) ∧ S.heap[q]? = some ce ∧ s.vm.findClass "java/lang/NullPointerException" = some ce.cls ∧ ce.vm = .none := by
  have howns : e.platform.frameOwnsMonitors = true := by rw [X.admits.platform]
  have hfin : e.platform.finalization = false := by rw [X.admits.platform]
  have hpl : e.platform.magicAccessors = ({} : Platform).magicAccessors := by rw [X.admits.platform]
  have hpl2 : e.platform.arrayCloneIsPublic = true := by rw [X.admits.platform]
  have a' : ∀ x, x ∈ Bundle.npeArmAtoms n → x.holds args s none s [] = true := fun x hx => h x hx
  obtain ⟨T, Z, L, LZ, Y⟩ := ThrowableC.of_atoms (args := args) howns hfin hpl (fun x hx => h x (by simp [Bundle.npeArmAtoms, hx]))
  obtain ⟨N, LN, hcN, hnNF, hordN, hffS⟩ := NpeC.of_atoms (args := args) hpl hpl2 L Y (fun x hx => h x (by simp [Bundle.npeArmAtoms, hx]))
  obtain ⟨P1, L1, hP1m, hP1s⟩ := PassC.of_atoms (args := args) (s := s) hpl (X := Bundle.nN) (Y := Bundle.rN) (by decide) (by decide) LibCode.NullPointerException.Init0.at_0 LibCode.NullPointerException.Init0.at_1 LibCode.NullPointerException.Init0.at_4 (fun x hx => h x (by simp [Bundle.npeArmAtoms, hx]))
  obtain ⟨PR, LR, hPRm, hPRs⟩ := PassC.of_atoms (args := args) (s := s) hpl (X := Bundle.rN) (Y := Bundle.eN) (by decide) (by decide) LibCode.RuntimeException.Init0.at_0 LibCode.RuntimeException.Init0.at_1 LibCode.RuntimeException.Init0.at_4 (fun x hx => h x (by simp [Bundle.npeArmAtoms, hx]))
  obtain ⟨PE, LEx, hPEm, hPEs⟩ := PassC.of_atoms (args := args) (s := s) hpl (X := Bundle.eN) (Y := Bundle.tN) (by decide) (by decide) LibCode.Exception.Init0.at_0 LibCode.Exception.Init0.at_1 LibCode.Exception.Init0.at_4 (fun x hx => h x (by simp [Bundle.npeArmAtoms, hx]))
  have hfound : s.vm.findClass Bundle.nN = some P1.m.cls := findClass_of_methodNamed hP1m
  have ecls : N.cN = P1.m.cls := Option.some.inj (hcN.symm.trans hfound)
  have hk : s.vm.classes[P1.m.cls]? = some N.kN := by rw [← ecls]; exact LN.cls
  have hinit := Cond.initialized_spec hfound hk (a' (.initialized Bundle.nN) (by simp [Bundle.npeArmAtoms]))
  have hctor : N.kN.findMethod "<init>" "()V" = some P1.m.idx := findMethod_of_methodNamed hP1m hk
  obtain ⟨c1, k1, hc1, hk1, -, -, -, hn⟩ := Cond.instantiable_spec (a' (.instantiable Bundle.nN n) (by simp [Bundle.npeArmAtoms]))
  cases Option.some.inj (hc1.symm.trans hfound)
  cases Option.some.inj (hk1.symm.trans hk)
  have hfsz : (freshCell P1.m.cls N.kN).slots.size = n := by simp [hn]
  have hlink1 : P1.sup = PR.m := Option.some.inj (hP1s.symm.trans hPRm)
  have hlinkR : PR.sup = PE.m := Option.some.inj (hPRs.symm.trans hPEm)
  have hlinkE : PE.sup = Z.m T.toThrowableT := Option.some.inj (hPEs.symm.trans Y.init0)
  have hLs : ∀ P, P ∈ [PR, PE] → P.Links0 e.platform s := fun P hP => by
    simp only [List.mem_cons, List.not_mem_nil, or_false] at hP
    rcases hP with rfl | rfl
    · exact LR
    · exact LEx
  have hsel0 : selectMethod e.platform s.vm P1.m.cls T.fill0 = .method T.fill0 := by
    obtain ⟨c2, r2, m2, q1, q2, q3, q4, -⟩ := Cond.selects_spec (a' (.selects Bundle.nN Bundle.tFill0 Bundle.tFill0) (by simp [Bundle.npeArmAtoms]))
    cases Option.some.inj (q1.symm.trans hfound)
    cases Option.some.inj (q2.symm.trans (State.methodFound?_of_named Y.fill0 (by decide)))
    cases Option.some.inj (q3.symm.trans Y.fill0)
    rw [Launch.admits_selectMethod X.admits]; exact q4
  have hselF : selectMethod e.platform s.vm P1.m.cls T.fill = .method N.fill := by
    obtain ⟨c2, r2, m2, q1, q2, q3, q4, -⟩ := Cond.selects_spec (a' (.selects Bundle.nN Bundle.tFill Bundle.nFill) (by simp [Bundle.npeArmAtoms]))
    cases Option.some.inj (q1.symm.trans hfound)
    cases Option.some.inj (q2.symm.trans (State.methodFound?_of_named Y.fill (by decide)))
    cases Option.some.inj (q3.symm.trans hnNF)
    rw [Launch.admits_selectMethod X.admits]; exact q4
  obtain ⟨cellS0, hcS0, hiss⟩ := Y.statics
  obtain ⟨u0, hu0⟩ := Cond.staticRefV Y.unassigned L.unassignedStatic L.statics hcS0 hiss (a' (.isRef (.static Bundle.tN "UNASSIGNED_STACK" Bundle.steD)) (by simp [Bundle.npeArmAtoms]))
  obtain ⟨sen, hsen⟩ := Cond.staticRefV Y.sentinel L.sentinelStatic L.statics hcS0 hiss (a' (.isRef (.static Bundle.tN "SUPPRESSED_SENTINEL" Bundle.listD)) (by simp [Bundle.npeArmAtoms]))
  obtain ⟨ci198, i198, fB, hk198, hg198, ha198, hsB, -, hnB, htB, hffB⟩ := Cond.ownField (t := .object "java/lang/Object") Y.found L.cls (by decide +kernel) (a' (.fieldLink Bundle.tN 198 Bundle.tN "backtrace" Bundle.objD) (by simp [Bundle.npeArmAtoms])) (a' (.lays Bundle.tN Bundle.tN "backtrace" Bundle.objD) (by simp [Bundle.npeArmAtoms])) e.platform hpl
  obtain ⟨cellS, hcS', heS, -, hkeep⟩ := X.same.2.2.2.2.2 T.aS cellS0 hcS0
  have hcellS : W.heap[T.aS]? = some cellS := hcS'
  have hout' : ∀ i, (⟨T.aS, i⟩ : Loc) ∉ locs := fun i hmem => by
    have := hlocs _ hmem cellS0 hcS0
    rw [hiss] at this; cases this
  have hknownS : cellS.vm ≠ .unknown := by
    rw [heS]; intro hu
    rw [show cellS0.vm = .unknown from hu] at hiss
    cases hiss
  have hvU : cellS.slots[T.fUnassigned.slot]? = some u0.v := by rw [hkeep _ (hout' _)]; exact hu0
  have hvSen : cellS.slots[T.fSentinel.slot]? = some sen.v := by rw [hkeep _ (hout' _)]; exact hsen
  obtain ⟨tyC, dC, hdC, hdnC⟩ := Cond.laysAt hfound hk Y.cause (a' (.lays Bundle.nN Bundle.tN "cause" "Ljava/lang/Throwable;") (by simp [Bundle.npeArmAtoms]))
  obtain ⟨tyS, dS, hdS, hdnS⟩ := Cond.laysAt hfound hk Y.stack (a' (.lays Bundle.nN Bundle.tN "stackTrace" Bundle.steD) (by simp [Bundle.npeArmAtoms]))
  obtain ⟨tyP, dP, hdP, hdnP⟩ := Cond.laysAt hfound hk Y.supp (a' (.lays Bundle.nN Bundle.tN "suppressedExceptions" Bundle.listD) (by simp [Bundle.npeArmAtoms]))
  obtain ⟨tyX, dX, hdX, hdnX⟩ := Cond.laysAt hfound hk hffS (a' (.lays Bundle.nN Bundle.nN "extendedMessageState" "I") (by simp [Bundle.npeArmAtoms, Bundle.npeAtoms]))
  obtain ⟨hnX, htX⟩ := State.fieldFound?_type hffS (t := .int) (by decide +kernel)
  have xC := Cond.laysApart hdC hdX hdnC hdnX (by rw [hnX, Y.causeName]; decide)
  have xS := Cond.laysApart hdS hdX hdnS hdnX (by rw [hnX, Y.stackName]; decide)
  have xP := Cond.laysApart hdP hdX hdnP hdnX (by rw [hnX, Y.suppName]; decide)
  have hv0 : (freshCell P1.m.cls N.kN).slots[N.fState.slot]? = some (.int 0) := by
    have := fresh_default (c := P1.m.cls) tyX
    rw [htX] at this; exact this
  obtain ⟨tyB, dB, hdB, hdnB⟩ := Cond.laysAt hfound hk hffB (a' (.lays Bundle.nN Bundle.tN "backtrace" Bundle.objD) (by simp [Bundle.npeArmAtoms]))
  have bC := Cond.laysApart hdB hdC hdnB hdnC (by rw [hnB, Y.causeName]; decide)
  have bS := Cond.laysApart hdB hdS hdnB hdnS (by rw [hnB, Y.stackName]; decide)
  have bP := Cond.laysApart hdB hdP hdnB hdnP (by rw [hnB, Y.suppName]; decide)
  have bX := Cond.laysApart hdB hdX hdnB hdnX (by rw [hnB, hnX]; decide)
  have hbk : ((npeCell N.toNpeT (preparedCellV T.toThrowableT (freshCell P1.m.cls N.kN) W.heap.size u0 sen) W.cur).withEntry W.cur).slots[fB.slot]? = some .null := by
    have := fresh_default (c := P1.m.cls) tyB
    rw [htB] at this
    simpa [npeCell, preparedCellV, Cell.setSlot, Cell.withEntry, Array.getElem?_setIfInBounds, bC, bS, bP, bX, bC.symm, bS.symm, bP.symm, bX.symm, defaultValue] using this
  have tkC := Takes.of_laid (v := .ref W.heap.size) hk hordN tyC (by rw [Y.causeType]; rfl)
  have tkS := Takes.of_laid (v := u0.v) hk hordN tyS (by rw [Y.stackType]; exact fits_refV_array _ u0)
  have tkP := Takes.of_laid (v := sen.v) hk hordN tyP (by rw [Y.suppType]; exact fits_refV_object _ sen)
  have tkX := Takes.of_laid (v := .int 1) hk hordN tyX (by rw [htX]; rfl)
  have hskip : SkipFacts T e.platform s (fun u => u) u0 ((npeCell N.toNpeT (preparedCellV T.toThrowableT (freshCell P1.m.cls N.kN) W.heap.size u0 sen) W.cur).withEntry W.cur) := ⟨{ ci198 := ci198, i198 := i198, fBack := fB }, ⟨hk198, hg198, ha198, hsB⟩, hbk, fun _ _ => rfl⟩
  obtain ⟨vm', X3, st, -⟩ := X.throwsNpeColdBareVAt hexec hg hsize T L Z LZ N LN P1 L1 [PR, PE] hLs hlink1 ⟨hlinkR, hlinkE, trivial⟩ hfound hk hinit hordN hctor hsel0 hselF hcellS hknownS hvU hvSen
    hv0 xC xS xP tkC tkS tkP tkX Y.objLocals hskip (fun _ _ hA hW _ hroom _ hrest => L.nativeOff p htr hA hW hroom hrest) (by simpa using hRframes) hRlocals (by simp) hRcells (by rw [hn]; exact hRslots)
  have hlt : W.heap.size < ((W.pushCell (freshCell P1.m.cls N.kN)).setVm vm').heap.size := by
    show W.heap.size < (W.pushCell (freshCell P1.m.cls N.kN)).heap.size
    rw [State.heap_size_pushCell]; omega
  rw [hfsz] at X3
  obtain ⟨g₁, hfrM⟩ := X3.frames_eq
  have hU : ((((W.pushCell (freshCell P1.m.cls N.kN)).setVm vm').setCell W.heap.size (npeBareV T.toThrowableT N.toNpeT (freshCell P1.m.cls N.kN) W.heap.size u0 sen)).setTop g).pushFrame (.throwing W.heap.size) = (((W.pushCell (freshCell P1.m.cls N.kN)).setVm vm').setCell W.heap.size (npeBareV T.toThrowableT N.toNpeT (freshCell P1.m.cls N.kN) W.heap.size u0 sen)).setFrames (.throwing W.heap.size :: .java g :: below) := by
    rw [State.pushFrame, State.frames_setTop _ hfrM, State.setTop_of_frames _ hfrM, State.setFrames_setFrames]
  refine ⟨_, W.heap.size, _, fun target ht => st.trans (by rw [← hU]; exact ht), X3.forget (fun y hy => ?_), heapAt_setCell_self _ hlt, hfound, rfl⟩
  simp only [List.mem_cons, List.not_mem_nil, or_false] at hy
  have hge : s.heap.size ≤ W.heap.size := X.same.2.1
  rcases hy with rfl | rfl | rfl | rfl | rfl <;> exact hge
/-- the words of a machine's NullPointerException, but the four that speak of the heap -/
def vx_atN (n : Nat) : List Cond := (Bundle.npeArmAtoms n).filter vx_no
/-- the words of a machine's throw with a message, but the four that speak of the heap -/
def vx_atM (X : String) (names : List String) : List Cond := (Bundle.messageArmAtoms X names).filter vx_no
section
variable {p : Program} {l : Launch} {e : Env} {R : Room} {s : State} {m : MethodId} {args : Array Value} {below : List Frame} {meth : Method} {c : Code} {H : Heap} {locs : List Loc} {cells slots : Nat}
/-- a frame seen from a rebased start, seen from the first start again -/
theorem vx_back9 {T S : State} {R' : Room} {k n : Nat} (X : Stand p l e R s m args below meth c T locs cells slots) (Y : Stand p l e R' ((T.setVm s.vm).setFrames (.invoking m args :: below)) m args below meth c T [] 0 0) (Z : Stand p l e R' ((T.setVm s.vm).setFrames (.invoking m args :: below)) m args below meth c S [] k n) :
    Stand p l e R s m args below meth c S locs (cells + k) (slots + n) := by
  have hW0 : s.WarmedH ((T.setVm s.vm).setFrames (.invoking m args :: below)).vm := State.WarmedH.refl s
  refine { admits := X.admits, cas := X.cas, clock := X.clock, frames := X.frames, room := X.room, hears := X.hears, method := X.method, code := X.code, here := Z.here, tail := Z.tail, warmed := State.WarmedH.trans hW0 Z.warmed, limits := Z.limits.trans (Y.limits.symm.trans X.limits), bytes := Z.bytes.trans (Y.bytes.symm.trans X.bytes), same := ?_ }
  obtain ⟨e1, e2⟩ := Z.same
  rw [State.setFrames_setFrames] at e1
  have h2 : (T.setVm s.vm).sameButNew (S.setVm s.vm) [] k n := ⟨e1, e2⟩
  have h3 := X.same.trans h2
  rw [List.append_nil] at h3
  exact h3
/-- from the machine's note that E is thrown here with this text -/
def vx_Note (p : Program) (l : Launch) (e : Env) (R : Room) (s : State) (m : MethodId) (args : Array Value) (below : List Frame) (meth : Method) (c : Code) (H : Heap) (locs : List Loc) (cells slots : Nat) (Q : State → Prop) (g : JFrame) (E text : String) : Prop :=
  ∀ T : State, T.heap = H → Stand p l e R s m args below meth c T locs cells slots → ∃ t, Steps p.tables e below ((T.setTop g).pushFrame (.throwNew E (some text) none)) t ∧ Q t
theorem vx_vm {pc : Nat} {ls : Array Slot} {rest : List Value} {Q : State → Prop} (hexec : p.tables.exec = Jvm.exec) (hl : l.stackTraces = false) {cls text : String} {names : List String} {nb : Nat} {A : Nat → Prop}
    (hcls : Bundle.fit cls = true) (hnames : ∀ n ∈ names, Bundle.fit n = true) (hsoe : (cls == "java/lang/StackOverflowError") = false) (hoom : (cls == "java/lang/OutOfMemoryError") = false)
    (hat : ∀ w ∈ vx_atM cls names, w.before args s = true) (hgood : ∀ w ∈ vx_atM cls names, vx_ot w = true)
    (hU : vx_Zq Bundle.tN "UNASSIGNED_STACK" Bundle.steD A s s.heap) (hN : vx_Zq Bundle.tN "SUPPRESSED_SENTINEL" Bundle.listD A s s.heap) (hS : va_S A s.heap H locs) (hsize : ls.size = c.maxLocals)
    (htext : (text == notModelled) = false) (hnb : (stringBytes (stringToUtf16 text)).size ≤ nb) (hnb1 : nb ≤ 1000)
    (hRframes : names.length + 4 < R.frames) (hRlocals : (rest.map fun v => v.category).sum + 10240 ≤ R.locals) (hshort : 13 * names.length + 55 ≤ 10240) (hRcells : cells + 3 ≤ R.cells) (hRslots : slots + (nb + 10) ≤ R.slots) (hlocks : meth.locks = false)
    (k : ∀ (H1 : Heap) (q9 : Addr) (ce : Cell), H.size ≤ H1.size → (∀ q : Nat, q < H.size → H1[q]? = H[q]?) → va_S A s.heap H1 locs → H1[q9]? = some ce → ce.vm = .none → s.vm.findClass cls = some ce.cls → vx_W p l e R s m args below meth c H1 locs (cells + 3) (slots + (nb + 10)) Q (F0 m pc ls rest) q9) :
    vx_Note p l e R s m args below meth c H locs cells slots Q (F0 m pc ls rest) cls text := by
  intro T hT X
  have htr : e.platform.stackTraces = false := (show e.platform.stackTraces = l.stackTraces by rw [X.admits.platform]).trans hl
  have Y := vx_rebase X (R' := { frames := R.frames, locals := R.locals, cells := 3, slots := nb + 10 }) (Nat.le_refl _) (Nat.le_refl _) hRcells hRslots
  have hhp : ((T.setVm s.vm).setFrames (.invoking m args :: below)).heap = H := hT
  have hW0 : s.WarmedH ((T.setVm s.vm).setFrames (.invoking m args :: below)).vm := State.WarmedH.refl s
  have hat' : ∀ w ∈ vx_atM cls names, w.before args ((T.setVm s.vm).setFrames (.invoking m args :: below)) = true := fun w hw => vx_ot_at hW0 rfl (hgood w hw) (hat w hw)
  have hU' : vx_Zq Bundle.tN "UNASSIGNED_STACK" Bundle.steD A ((T.setVm s.vm).setFrames (.invoking m args :: below)) ((T.setVm s.vm).setFrames (.invoking m args :: below)).heap := by rw [hhp]; exact vx_Zq.moved hW0.alike (hU.kept hS.2.1)
  have hN' : vx_Zq Bundle.tN "SUPPRESSED_SENTINEL" Bundle.listD A ((T.setVm s.vm).setFrames (.invoking m args :: below)) ((T.setVm s.vm).setFrames (.invoking m args :: below)).heap := by rw [hhp]; exact vx_Zq.moved hW0.alike (hN.kept hS.2.1)
  obtain ⟨S, q, ce, st, Z, hce, hcl', hv⟩ := vx_vmAt Y hexec htr (cls := cls) (names := names) (text := text) hcls hnames hsoe hoom (vx_own hat' (vx_isRefq hU'.1) (vx_isRefq hN'.1) hU'.2.word hN'.2.word) (fun x hx => nomatch hx) htext
    (by rw [Launch.admits_arrayLengthLimit X.admits]; omega) (by rw [Launch.admits_maxHeapBytes X.admits]; simp only [componentBytes]; omega)
    (g := F0 m pc ls rest) rfl hsize hRframes (by show 2 * 0 + (rest.map fun v => v.category).sum + 10240 ≤ R.locals; omega) hshort (by show 0 + 3 ≤ 3; omega) (by show 0 + (_ + 4 + 6) ≤ nb + 10; omega) hlocks
  obtain ⟨f1, f2⟩ := vx_frame Z.same
  have f1' : H.size ≤ S.heap.size := by rw [← hT]; exact f1
  have f2' : ∀ q : Nat, q < H.size → S.heap[q]? = H[q]? := fun q hq => by
    rw [← hT]
    exact f2 q (by rw [← hT] at hq; exact hq) (fun z hz => nomatch hz)
  have X5 := vx_back9 X Y Z
  have X6 : Stand p l e R s m args below meth c S locs (cells + 3) (slots + (nb + 10)) := { X5 with same := X5.same.mono (by omega) (by omega) }
  obtain ⟨t, a1, b1⟩ := k S.heap q ce f1' f2' ⟨Nat.le_trans hS.1 f1', fun q h1 h2 => (f2' q (Nat.lt_of_lt_of_le h1 hS.1)).trans (hS.2.1 q h1 h2), hS.2.2⟩ hce hv hcl' S rfl X6
  exact ⟨t, st t a1, b1⟩
/-- from the machine's note that NullPointerException is thrown here -/
def vx_NoteN (p : Program) (l : Launch) (e : Env) (R : Room) (s : State) (m : MethodId) (args : Array Value) (below : List Frame) (meth : Method) (c : Code) (H : Heap) (locs : List Loc) (cells slots : Nat) (Q : State → Prop) (g : JFrame) : Prop :=
  ∀ T : State, T.heap = H → Stand p l e R s m args below meth c T locs cells slots → ∃ t, Steps p.tables e below ((T.setTop g).pushFrame (.throwNew "java/lang/NullPointerException" none none)) t ∧ Q t
theorem vx_npe {pc : Nat} {ls : Array Slot} {rest : List Value} {Q : State → Prop} (hexec : p.tables.exec = Jvm.exec) (hl : l.stackTraces = false) {nb : Nat} {A : Nat → Prop}
    (hat : ∀ w ∈ vx_atN nb, w.before args s = true) (hgood : ∀ w ∈ vx_atN nb, vx_ot w = true)
    (hU : vx_Zq Bundle.tN "UNASSIGNED_STACK" Bundle.steD A s s.heap) (hN : vx_Zq Bundle.tN "SUPPRESSED_SENTINEL" Bundle.listD A s s.heap) (hS : va_S A s.heap H locs) (hsize : ls.size = c.maxLocals)
    (hRframes : 7 < R.frames) (hRlocals : (rest.map fun v => v.category).sum + 10240 ≤ R.locals) (hRcells : cells + 1 ≤ R.cells) (hRslots : slots + nb ≤ R.slots) (hlocks : meth.locks = false)
    (k : ∀ (H1 : Heap) (q9 : Addr) (ce : Cell), H.size ≤ H1.size → (∀ q : Nat, q < H.size → H1[q]? = H[q]?) → va_S A s.heap H1 locs → H1[q9]? = some ce → ce.vm = .none → s.vm.findClass "java/lang/NullPointerException" = some ce.cls → vx_W p l e R s m args below meth c H1 locs (cells + 1) (slots + nb) Q (F0 m pc ls rest) q9) :
    vx_NoteN p l e R s m args below meth c H locs cells slots Q (F0 m pc ls rest) := by
  intro T hT X
  have htr : e.platform.stackTraces = false := (show e.platform.stackTraces = l.stackTraces by rw [X.admits.platform]).trans hl
  have Y := vx_rebase X (R' := { frames := R.frames, locals := R.locals, cells := 1, slots := nb }) (Nat.le_refl _) (Nat.le_refl _) hRcells hRslots
  have hhp : ((T.setVm s.vm).setFrames (.invoking m args :: below)).heap = H := hT
  have hW0 : s.WarmedH ((T.setVm s.vm).setFrames (.invoking m args :: below)).vm := State.WarmedH.refl s
  have hat' : ∀ w ∈ vx_atN nb, w.before args ((T.setVm s.vm).setFrames (.invoking m args :: below)) = true := fun w hw => vx_ot_at hW0 rfl (hgood w hw) (hat w hw)
  have hU' : vx_Zq Bundle.tN "UNASSIGNED_STACK" Bundle.steD A ((T.setVm s.vm).setFrames (.invoking m args :: below)) ((T.setVm s.vm).setFrames (.invoking m args :: below)).heap := by rw [hhp]; exact vx_Zq.moved hW0.alike (hU.kept hS.2.1)
  have hN' : vx_Zq Bundle.tN "SUPPRESSED_SENTINEL" Bundle.listD A ((T.setVm s.vm).setFrames (.invoking m args :: below)) ((T.setVm s.vm).setFrames (.invoking m args :: below)).heap := by rw [hhp]; exact vx_Zq.moved hW0.alike (hN.kept hS.2.1)
  obtain ⟨S, q, ce, st, Z, hce, hcl', hv⟩ := vx_npeAt Y hexec htr (n := nb) (vx_own hat' (vx_isRefq hU'.1) (vx_isRefq hN'.1) hU'.2.word hN'.2.word) (fun x hx => nomatch hx)
    (g := F0 m pc ls rest) rfl hsize hRframes (by show 2 * 0 + (rest.map fun v => v.category).sum + 10240 ≤ R.locals; omega) (by show 0 + 1 ≤ 1; omega) (by show 0 + nb ≤ nb; omega) hlocks
  obtain ⟨f1, f2⟩ := vx_frame Z.same
  have f1' : H.size ≤ S.heap.size := by rw [← hT]; exact f1
  have f2' : ∀ q : Nat, q < H.size → S.heap[q]? = H[q]? := fun q hq => by
    rw [← hT]
    exact f2 q (by rw [← hT] at hq; exact hq) (fun z hz => nomatch hz)
  have X5 := vx_back9 X Y Z
  have X6 : Stand p l e R s m args below meth c S locs (cells + 1) (slots + nb) := { X5 with same := X5.same.mono (by omega) (by omega) }
  obtain ⟨t, a1, b1⟩ := k S.heap q ce f1' f2' ⟨Nat.le_trans hS.1 f1', fun q h1 h2 => (f2' q (Nat.lt_of_lt_of_le h1 hS.1)).trans (hS.2.1 q h1 h2), hS.2.2⟩ hce hv hcl' S rfl X6
  exact ⟨t, st t a1, b1⟩
variable {Q : State → Prop} {cc : ByteArray} {pc : Nat} {ls : Array Slot} {rest : List Value}
theorem vx_idivZ (hexec : p.tables.exec = Jvm.exec) (hb : c.code = cc) {a b : Int32} (h0 : b = 0) (d : decode cc pc = .ok (.idiv, 1)) (k : vx_Note p l e R s m args below meth c H locs cells slots Q (F0 m pc ls rest) "java/lang/ArithmeticException" "/ by zero") :
    W p l e R s m args below meth c H locs cells slots Q (F0 m pc ls (.int b :: .int a :: rest)) := by
  intro T hT X
  obtain ⟨t, st, q⟩ := k T hT X
  exact ⟨t, X.idivZero hexec (g := F0 m pc ls (.int b :: .int a :: rest)) rfl (a := a) (rest := rest) (by rw [h0]) (by rw [hb]; exact d) t st, q⟩
theorem vx_iremZ (hexec : p.tables.exec = Jvm.exec) (hb : c.code = cc) {a b : Int32} (h0 : b = 0) (d : decode cc pc = .ok (.irem, 1)) (k : vx_Note p l e R s m args below meth c H locs cells slots Q (F0 m pc ls rest) "java/lang/ArithmeticException" "/ by zero") :
    W p l e R s m args below meth c H locs cells slots Q (F0 m pc ls (.int b :: .int a :: rest)) := by
  intro T hT X
  obtain ⟨t, st, q⟩ := k T hT X
  exact ⟨t, X.iremZero hexec (g := F0 m pc ls (.int b :: .int a :: rest)) rfl (a := a) (rest := rest) (by rw [h0]) (by rw [hb]; exact d) t st, q⟩
theorem vx_ldivZ (hexec : p.tables.exec = Jvm.exec) (hb : c.code = cc) {a b : Int64} (h0 : b = 0) (d : decode cc pc = .ok (.ldiv, 1)) (k : vx_Note p l e R s m args below meth c H locs cells slots Q (F0 m pc ls rest) "java/lang/ArithmeticException" "/ by zero") :
    W p l e R s m args below meth c H locs cells slots Q (F0 m pc ls (.long b :: .long a :: rest)) := by
  intro T hT X
  obtain ⟨t, st, q⟩ := k T hT X
  exact ⟨t, X.ldivZero hexec (g := F0 m pc ls (.long b :: .long a :: rest)) rfl (a := a) (rest := rest) (by rw [h0]) (by rw [hb]; exact d) t st, q⟩
theorem vx_lremZ (hexec : p.tables.exec = Jvm.exec) (hb : c.code = cc) {a b : Int64} (h0 : b = 0) (d : decode cc pc = .ok (.lrem, 1)) (k : vx_Note p l e R s m args below meth c H locs cells slots Q (F0 m pc ls rest) "java/lang/ArithmeticException" "/ by zero") :
    W p l e R s m args below meth c H locs cells slots Q (F0 m pc ls (.long b :: .long a :: rest)) := by
  intro T hT X
  obtain ⟨t, st, q⟩ := k T hT X
  exact ⟨t, X.lremZero hexec (g := F0 m pc ls (.long b :: .long a :: rest)) rfl (a := a) (rest := rest) (by rw [h0]) (by rw [hb]; exact d) t st, q⟩
theorem vx_ialdZ {D : va_G} {cl : List vw_C} {ws : va_W} {tys : List (ClassId × FieldType)} {a : Nat} (hexec : p.tables.exec = Jvm.exec) (hb : c.code = cc) (hK : va_K D cl tys s) (hP : va_P D cl ws H) (q0 t0 : Nat) {cA : ClassId} {n : Nat} {f : Nat → Int32} (ha : ws[q0]? = some (a, .inl (cA, n, .inl f))) (ht : tys[t0]? = some (cA, .int)) {i : Int32} (hout : ¬ vp_in i n) (hdg : decode cc pc = .ok (.iaload, 1))
    (k : ∀ tx : String, tx = (toString "Index " ++ toString i ++ toString " out of bounds for length " ++ toString n : String) → vx_Note p l e R s m args below meth c H locs cells slots Q (F0 m pc ls rest) "java/lang/ArrayIndexOutOfBoundsException" tx) : W p l e R s m args below meth c H locs cells slots Q (F0 m pc ls (.int i :: .ref a :: rest)) := by
  intro T hT X
  obtain ⟨t, st, q⟩ := k _ rfl T hT X
  refine ⟨t, ?_, q⟩
  have h1 := X.ialoadOut hexec (by rw [hT]; exact hP q0 _ ha) ((hK.2 t0 _ ht).1 n (fun j => .int (f j))) (j := i) (by show (i < 0 ∨ (arrV _ _ _).slots.size ≤ _); rw [arrV_size]; exact Classical.byContradiction hout) (g := F0 m pc ls (.int i :: .ref a :: rest)) rfl (rest := rest) rfl (by rw [hb]; exact hdg) t
  simp only [arrV_size] at h1
  exact h1 st
theorem vx_iastZ {D : va_G} {cl : List vw_C} {ws : va_W} {tys : List (ClassId × FieldType)} {a : Nat} (hexec : p.tables.exec = Jvm.exec) (hb : c.code = cc) (hK : va_K D cl tys s) (hP : va_P D cl ws H) (q0 t0 : Nat) {cA : ClassId} {n : Nat} {f : Nat → Int32} (ha : ws[q0]? = some (a, .inl (cA, n, .inl f))) (ht : tys[t0]? = some (cA, .int)) {i : Int32} {x : Int32} (hout : ¬ vp_in i n) (hdg : decode cc pc = .ok (.iastore, 1))
    (k : ∀ tx : String, tx = (toString "Index " ++ toString i ++ toString " out of bounds for length " ++ toString n : String) → vx_Note p l e R s m args below meth c H locs cells slots Q (F0 m pc ls rest) "java/lang/ArrayIndexOutOfBoundsException" tx) : W p l e R s m args below meth c H locs cells slots Q (F0 m pc ls (.int x :: .int i :: .ref a :: rest)) := by
  intro T hT X
  obtain ⟨t, st, q⟩ := k _ rfl T hT X
  refine ⟨t, ?_, q⟩
  have h1 := X.iastoreOut hexec (by rw [hT]; exact hP q0 _ ha) ((hK.2 t0 _ ht).1 n (fun j => .int (f j))) (j := i) (by show (i < 0 ∨ (arrV _ _ _).slots.size ≤ _); rw [arrV_size]; exact Classical.byContradiction hout) (g := F0 m pc ls (.int x :: .int i :: .ref a :: rest)) rfl (rest := rest) rfl (by rw [hb]; exact hdg) t
  simp only [arrV_size] at h1
  exact h1 st
theorem vx_baldZ {D : va_G} {cl : List vw_C} {ws : va_W} {tys : List (ClassId × FieldType)} {a : Nat} (hexec : p.tables.exec = Jvm.exec) (hb : c.code = cc) (hK : va_K D cl tys s) (hP : va_P D cl ws H) (q0 t0 : Nat) {cA : ClassId} {n : Nat} {f : Nat → Int32} (ha : ws[q0]? = some (a, .inl (cA, n, .inl f))) (ht : tys[t0]? = some (cA, .byte)) {i : Int32} (hout : ¬ vp_in i n) (hdg : decode cc pc = .ok (.baload, 1))
    (k : ∀ tx : String, tx = (toString "Index " ++ toString i ++ toString " out of bounds for length " ++ toString n : String) → vx_Note p l e R s m args below meth c H locs cells slots Q (F0 m pc ls rest) "java/lang/ArrayIndexOutOfBoundsException" tx) : W p l e R s m args below meth c H locs cells slots Q (F0 m pc ls (.int i :: .ref a :: rest)) := by
  intro T hT X
  obtain ⟨t, st, q⟩ := k _ rfl T hT X
  refine ⟨t, ?_, q⟩
  have h1 := X.baloadOut hexec (by rw [hT]; exact hP q0 _ ha) ((hK.2 t0 _ ht).1 n (fun j => .int (f j))) (j := i) (by show (i < 0 ∨ (arrV _ _ _).slots.size ≤ _); rw [arrV_size]; exact Classical.byContradiction hout) (g := F0 m pc ls (.int i :: .ref a :: rest)) rfl (rest := rest) rfl (by rw [hb]; exact hdg) t
  simp only [arrV_size] at h1
  exact h1 st
theorem vx_bastZ {D : va_G} {cl : List vw_C} {ws : va_W} {tys : List (ClassId × FieldType)} {a : Nat} (hexec : p.tables.exec = Jvm.exec) (hb : c.code = cc) (hK : va_K D cl tys s) (hP : va_P D cl ws H) (q0 t0 : Nat) {cA : ClassId} {n : Nat} {f : Nat → Int32} (ha : ws[q0]? = some (a, .inl (cA, n, .inl f))) (ht : tys[t0]? = some (cA, .byte)) {i : Int32} {x : Int32} (hout : ¬ vp_in i n) (hdg : decode cc pc = .ok (.bastore, 1))
    (k : ∀ tx : String, tx = (toString "Index " ++ toString i ++ toString " out of bounds for length " ++ toString n : String) → vx_Note p l e R s m args below meth c H locs cells slots Q (F0 m pc ls rest) "java/lang/ArrayIndexOutOfBoundsException" tx) : W p l e R s m args below meth c H locs cells slots Q (F0 m pc ls (.int x :: .int i :: .ref a :: rest)) := by
  intro T hT X
  obtain ⟨t, st, q⟩ := k _ rfl T hT X
  refine ⟨t, ?_, q⟩
  have h1 := X.bastoreOut hexec (by rw [hT]; exact hP q0 _ ha) ((hK.2 t0 _ ht).1 n (fun j => .int (f j))) (j := i) (by show (i < 0 ∨ (arrV _ _ _).slots.size ≤ _); rw [arrV_size]; exact Classical.byContradiction hout) (g := F0 m pc ls (.int x :: .int i :: .ref a :: rest)) rfl (rest := rest) rfl (by rw [hb]; exact hdg) t
  simp only [arrV_size] at h1
  exact h1 st
theorem vx_zaldZ {D : va_G} {cl : List vw_C} {ws : va_W} {tys : List (ClassId × FieldType)} {a : Nat} (hexec : p.tables.exec = Jvm.exec) (hb : c.code = cc) (hK : va_K D cl tys s) (hP : va_P D cl ws H) (q0 t0 : Nat) {cA : ClassId} {n : Nat} {f : Nat → Int32} (ha : ws[q0]? = some (a, .inl (cA, n, .inl f))) (ht : tys[t0]? = some (cA, .boolean)) {i : Int32} (hout : ¬ vp_in i n) (hdg : decode cc pc = .ok (.baload, 1))
    (k : ∀ tx : String, tx = (toString "Index " ++ toString i ++ toString " out of bounds for length " ++ toString n : String) → vx_Note p l e R s m args below meth c H locs cells slots Q (F0 m pc ls rest) "java/lang/ArrayIndexOutOfBoundsException" tx) : W p l e R s m args below meth c H locs cells slots Q (F0 m pc ls (.int i :: .ref a :: rest)) := by
  intro T hT X
  obtain ⟨t, st, q⟩ := k _ rfl T hT X
  refine ⟨t, ?_, q⟩
  have h1 := X.baloadOut hexec (by rw [hT]; exact hP q0 _ ha) ((hK.2 t0 _ ht).1 n (fun j => .int (f j))) (j := i) (by show (i < 0 ∨ (arrV _ _ _).slots.size ≤ _); rw [arrV_size]; exact Classical.byContradiction hout) (g := F0 m pc ls (.int i :: .ref a :: rest)) rfl (rest := rest) rfl (by rw [hb]; exact hdg) t
  simp only [arrV_size] at h1
  exact h1 st
theorem vx_zastZ {D : va_G} {cl : List vw_C} {ws : va_W} {tys : List (ClassId × FieldType)} {a : Nat} (hexec : p.tables.exec = Jvm.exec) (hb : c.code = cc) (hK : va_K D cl tys s) (hP : va_P D cl ws H) (q0 t0 : Nat) {cA : ClassId} {n : Nat} {f : Nat → Int32} (ha : ws[q0]? = some (a, .inl (cA, n, .inl f))) (ht : tys[t0]? = some (cA, .boolean)) {i : Int32} {x : Int32} (hout : ¬ vp_in i n) (hdg : decode cc pc = .ok (.bastore, 1))
    (k : ∀ tx : String, tx = (toString "Index " ++ toString i ++ toString " out of bounds for length " ++ toString n : String) → vx_Note p l e R s m args below meth c H locs cells slots Q (F0 m pc ls rest) "java/lang/ArrayIndexOutOfBoundsException" tx) : W p l e R s m args below meth c H locs cells slots Q (F0 m pc ls (.int x :: .int i :: .ref a :: rest)) := by
  intro T hT X
  obtain ⟨t, st, q⟩ := k _ rfl T hT X
  refine ⟨t, ?_, q⟩
  have h1 := X.bastoreOut hexec (by rw [hT]; exact hP q0 _ ha) ((hK.2 t0 _ ht).1 n (fun j => .int (f j))) (j := i) (by show (i < 0 ∨ (arrV _ _ _).slots.size ≤ _); rw [arrV_size]; exact Classical.byContradiction hout) (g := F0 m pc ls (.int x :: .int i :: .ref a :: rest)) rfl (rest := rest) rfl (by rw [hb]; exact hdg) t
  simp only [arrV_size] at h1
  exact h1 st
theorem vx_caldZ {D : va_G} {cl : List vw_C} {ws : va_W} {tys : List (ClassId × FieldType)} {a : Nat} (hexec : p.tables.exec = Jvm.exec) (hb : c.code = cc) (hK : va_K D cl tys s) (hP : va_P D cl ws H) (q0 t0 : Nat) {cA : ClassId} {n : Nat} {f : Nat → Int32} (ha : ws[q0]? = some (a, .inl (cA, n, .inl f))) (ht : tys[t0]? = some (cA, .char)) {i : Int32} (hout : ¬ vp_in i n) (hdg : decode cc pc = .ok (.caload, 1))
    (k : ∀ tx : String, tx = (toString "Index " ++ toString i ++ toString " out of bounds for length " ++ toString n : String) → vx_Note p l e R s m args below meth c H locs cells slots Q (F0 m pc ls rest) "java/lang/ArrayIndexOutOfBoundsException" tx) : W p l e R s m args below meth c H locs cells slots Q (F0 m pc ls (.int i :: .ref a :: rest)) := by
  intro T hT X
  obtain ⟨t, st, q⟩ := k _ rfl T hT X
  refine ⟨t, ?_, q⟩
  have h1 := X.caloadOut hexec (by rw [hT]; exact hP q0 _ ha) ((hK.2 t0 _ ht).1 n (fun j => .int (f j))) (j := i) (by show (i < 0 ∨ (arrV _ _ _).slots.size ≤ _); rw [arrV_size]; exact Classical.byContradiction hout) (g := F0 m pc ls (.int i :: .ref a :: rest)) rfl (rest := rest) rfl (by rw [hb]; exact hdg) t
  simp only [arrV_size] at h1
  exact h1 st
theorem vx_castZ {D : va_G} {cl : List vw_C} {ws : va_W} {tys : List (ClassId × FieldType)} {a : Nat} (hexec : p.tables.exec = Jvm.exec) (hb : c.code = cc) (hK : va_K D cl tys s) (hP : va_P D cl ws H) (q0 t0 : Nat) {cA : ClassId} {n : Nat} {f : Nat → Int32} (ha : ws[q0]? = some (a, .inl (cA, n, .inl f))) (ht : tys[t0]? = some (cA, .char)) {i : Int32} {x : Int32} (hout : ¬ vp_in i n) (hdg : decode cc pc = .ok (.castore, 1))
    (k : ∀ tx : String, tx = (toString "Index " ++ toString i ++ toString " out of bounds for length " ++ toString n : String) → vx_Note p l e R s m args below meth c H locs cells slots Q (F0 m pc ls rest) "java/lang/ArrayIndexOutOfBoundsException" tx) : W p l e R s m args below meth c H locs cells slots Q (F0 m pc ls (.int x :: .int i :: .ref a :: rest)) := by
  intro T hT X
  obtain ⟨t, st, q⟩ := k _ rfl T hT X
  refine ⟨t, ?_, q⟩
  have h1 := X.castoreOut hexec (by rw [hT]; exact hP q0 _ ha) ((hK.2 t0 _ ht).1 n (fun j => .int (f j))) (j := i) (by show (i < 0 ∨ (arrV _ _ _).slots.size ≤ _); rw [arrV_size]; exact Classical.byContradiction hout) (g := F0 m pc ls (.int x :: .int i :: .ref a :: rest)) rfl (rest := rest) rfl (by rw [hb]; exact hdg) t
  simp only [arrV_size] at h1
  exact h1 st
theorem vx_saldZ {D : va_G} {cl : List vw_C} {ws : va_W} {tys : List (ClassId × FieldType)} {a : Nat} (hexec : p.tables.exec = Jvm.exec) (hb : c.code = cc) (hK : va_K D cl tys s) (hP : va_P D cl ws H) (q0 t0 : Nat) {cA : ClassId} {n : Nat} {f : Nat → Int32} (ha : ws[q0]? = some (a, .inl (cA, n, .inl f))) (ht : tys[t0]? = some (cA, .short)) {i : Int32} (hout : ¬ vp_in i n) (hdg : decode cc pc = .ok (.saload, 1))
    (k : ∀ tx : String, tx = (toString "Index " ++ toString i ++ toString " out of bounds for length " ++ toString n : String) → vx_Note p l e R s m args below meth c H locs cells slots Q (F0 m pc ls rest) "java/lang/ArrayIndexOutOfBoundsException" tx) : W p l e R s m args below meth c H locs cells slots Q (F0 m pc ls (.int i :: .ref a :: rest)) := by
  intro T hT X
  obtain ⟨t, st, q⟩ := k _ rfl T hT X
  refine ⟨t, ?_, q⟩
  have h1 := X.saloadOut hexec (by rw [hT]; exact hP q0 _ ha) ((hK.2 t0 _ ht).1 n (fun j => .int (f j))) (j := i) (by show (i < 0 ∨ (arrV _ _ _).slots.size ≤ _); rw [arrV_size]; exact Classical.byContradiction hout) (g := F0 m pc ls (.int i :: .ref a :: rest)) rfl (rest := rest) rfl (by rw [hb]; exact hdg) t
  simp only [arrV_size] at h1
  exact h1 st
theorem vx_sastZ {D : va_G} {cl : List vw_C} {ws : va_W} {tys : List (ClassId × FieldType)} {a : Nat} (hexec : p.tables.exec = Jvm.exec) (hb : c.code = cc) (hK : va_K D cl tys s) (hP : va_P D cl ws H) (q0 t0 : Nat) {cA : ClassId} {n : Nat} {f : Nat → Int32} (ha : ws[q0]? = some (a, .inl (cA, n, .inl f))) (ht : tys[t0]? = some (cA, .short)) {i : Int32} {x : Int32} (hout : ¬ vp_in i n) (hdg : decode cc pc = .ok (.sastore, 1))
    (k : ∀ tx : String, tx = (toString "Index " ++ toString i ++ toString " out of bounds for length " ++ toString n : String) → vx_Note p l e R s m args below meth c H locs cells slots Q (F0 m pc ls rest) "java/lang/ArrayIndexOutOfBoundsException" tx) : W p l e R s m args below meth c H locs cells slots Q (F0 m pc ls (.int x :: .int i :: .ref a :: rest)) := by
  intro T hT X
  obtain ⟨t, st, q⟩ := k _ rfl T hT X
  refine ⟨t, ?_, q⟩
  have h1 := X.sastoreOut hexec (by rw [hT]; exact hP q0 _ ha) ((hK.2 t0 _ ht).1 n (fun j => .int (f j))) (j := i) (by show (i < 0 ∨ (arrV _ _ _).slots.size ≤ _); rw [arrV_size]; exact Classical.byContradiction hout) (g := F0 m pc ls (.int x :: .int i :: .ref a :: rest)) rfl (rest := rest) rfl (by rw [hb]; exact hdg) t
  simp only [arrV_size] at h1
  exact h1 st
theorem vx_laldZ {D : va_G} {cl : List vw_C} {ws : va_W} {tys : List (ClassId × FieldType)} {a : Nat} (hexec : p.tables.exec = Jvm.exec) (hb : c.code = cc) (hK : va_K D cl tys s) (hP : va_P D cl ws H) (q0 t0 : Nat) {cA : ClassId} {n : Nat} {f : Nat → Int64} (ha : ws[q0]? = some (a, .inl (cA, n, .inr (.inl f)))) (ht : tys[t0]? = some (cA, .long)) {i : Int32} (hout : ¬ vp_in i n) (hdg : decode cc pc = .ok (.laload, 1))
    (k : ∀ tx : String, tx = (toString "Index " ++ toString i ++ toString " out of bounds for length " ++ toString n : String) → vx_Note p l e R s m args below meth c H locs cells slots Q (F0 m pc ls rest) "java/lang/ArrayIndexOutOfBoundsException" tx) : W p l e R s m args below meth c H locs cells slots Q (F0 m pc ls (.int i :: .ref a :: rest)) := by
  intro T hT X
  obtain ⟨t, st, q⟩ := k _ rfl T hT X
  refine ⟨t, ?_, q⟩
  have h1 := X.laloadOut hexec (by rw [hT]; exact hP q0 _ ha) ((hK.2 t0 _ ht).1 n (fun j => .long (f j))) (j := i) (by show (i < 0 ∨ (arrV _ _ _).slots.size ≤ _); rw [arrV_size]; exact Classical.byContradiction hout) (g := F0 m pc ls (.int i :: .ref a :: rest)) rfl (rest := rest) rfl (by rw [hb]; exact hdg) t
  simp only [arrV_size] at h1
  exact h1 st
theorem vx_lastZ {D : va_G} {cl : List vw_C} {ws : va_W} {tys : List (ClassId × FieldType)} {a : Nat} (hexec : p.tables.exec = Jvm.exec) (hb : c.code = cc) (hK : va_K D cl tys s) (hP : va_P D cl ws H) (q0 t0 : Nat) {cA : ClassId} {n : Nat} {f : Nat → Int64} (ha : ws[q0]? = some (a, .inl (cA, n, .inr (.inl f)))) (ht : tys[t0]? = some (cA, .long)) {i : Int32} {x : Int64} (hout : ¬ vp_in i n) (hdg : decode cc pc = .ok (.lastore, 1))
    (k : ∀ tx : String, tx = (toString "Index " ++ toString i ++ toString " out of bounds for length " ++ toString n : String) → vx_Note p l e R s m args below meth c H locs cells slots Q (F0 m pc ls rest) "java/lang/ArrayIndexOutOfBoundsException" tx) : W p l e R s m args below meth c H locs cells slots Q (F0 m pc ls (.long x :: .int i :: .ref a :: rest)) := by
  intro T hT X
  obtain ⟨t, st, q⟩ := k _ rfl T hT X
  refine ⟨t, ?_, q⟩
  have h1 := X.lastoreOut hexec (by rw [hT]; exact hP q0 _ ha) ((hK.2 t0 _ ht).1 n (fun j => .long (f j))) (j := i) (by show (i < 0 ∨ (arrV _ _ _).slots.size ≤ _); rw [arrV_size]; exact Classical.byContradiction hout) (g := F0 m pc ls (.long x :: .int i :: .ref a :: rest)) rfl (rest := rest) rfl (by rw [hb]; exact hdg) t
  simp only [arrV_size] at h1
  exact h1 st
theorem vx_faldZ {D : va_G} {cl : List vw_C} {ws : va_W} {tys : List (ClassId × FieldType)} {a : Nat} (hexec : p.tables.exec = Jvm.exec) (hb : c.code = cc) (hK : va_K D cl tys s) (hP : va_P D cl ws H) (q0 t0 : Nat) {cA : ClassId} {n : Nat} {f : Nat → UInt32} (ha : ws[q0]? = some (a, .inl (cA, n, .inr (.inr (.inl f))))) (ht : tys[t0]? = some (cA, .float)) {i : Int32} (hout : ¬ vp_in i n) (hdg : decode cc pc = .ok (.faload, 1))
    (k : ∀ tx : String, tx = (toString "Index " ++ toString i ++ toString " out of bounds for length " ++ toString n : String) → vx_Note p l e R s m args below meth c H locs cells slots Q (F0 m pc ls rest) "java/lang/ArrayIndexOutOfBoundsException" tx) : W p l e R s m args below meth c H locs cells slots Q (F0 m pc ls (.int i :: .ref a :: rest)) := by
  intro T hT X
  obtain ⟨t, st, q⟩ := k _ rfl T hT X
  refine ⟨t, ?_, q⟩
  have h1 := X.faloadOut hexec (by rw [hT]; exact hP q0 _ ha) ((hK.2 t0 _ ht).1 n (fun j => .float (f j))) (j := i) (by show (i < 0 ∨ (arrV _ _ _).slots.size ≤ _); rw [arrV_size]; exact Classical.byContradiction hout) (g := F0 m pc ls (.int i :: .ref a :: rest)) rfl (rest := rest) rfl (by rw [hb]; exact hdg) t
  simp only [arrV_size] at h1
  exact h1 st
theorem vx_fastZ {D : va_G} {cl : List vw_C} {ws : va_W} {tys : List (ClassId × FieldType)} {a : Nat} (hexec : p.tables.exec = Jvm.exec) (hb : c.code = cc) (hK : va_K D cl tys s) (hP : va_P D cl ws H) (q0 t0 : Nat) {cA : ClassId} {n : Nat} {f : Nat → UInt32} (ha : ws[q0]? = some (a, .inl (cA, n, .inr (.inr (.inl f))))) (ht : tys[t0]? = some (cA, .float)) {i : Int32} {x : UInt32} (hout : ¬ vp_in i n) (hdg : decode cc pc = .ok (.fastore, 1))
    (k : ∀ tx : String, tx = (toString "Index " ++ toString i ++ toString " out of bounds for length " ++ toString n : String) → vx_Note p l e R s m args below meth c H locs cells slots Q (F0 m pc ls rest) "java/lang/ArrayIndexOutOfBoundsException" tx) : W p l e R s m args below meth c H locs cells slots Q (F0 m pc ls (.float x :: .int i :: .ref a :: rest)) := by
  intro T hT X
  obtain ⟨t, st, q⟩ := k _ rfl T hT X
  refine ⟨t, ?_, q⟩
  have h1 := X.fastoreOut hexec (by rw [hT]; exact hP q0 _ ha) ((hK.2 t0 _ ht).1 n (fun j => .float (f j))) (j := i) (by show (i < 0 ∨ (arrV _ _ _).slots.size ≤ _); rw [arrV_size]; exact Classical.byContradiction hout) (g := F0 m pc ls (.float x :: .int i :: .ref a :: rest)) rfl (rest := rest) rfl (by rw [hb]; exact hdg) t
  simp only [arrV_size] at h1
  exact h1 st
theorem vx_daldZ {D : va_G} {cl : List vw_C} {ws : va_W} {tys : List (ClassId × FieldType)} {a : Nat} (hexec : p.tables.exec = Jvm.exec) (hb : c.code = cc) (hK : va_K D cl tys s) (hP : va_P D cl ws H) (q0 t0 : Nat) {cA : ClassId} {n : Nat} {f : Nat → UInt64} (ha : ws[q0]? = some (a, .inl (cA, n, .inr (.inr (.inr (.inl f)))))) (ht : tys[t0]? = some (cA, .double)) {i : Int32} (hout : ¬ vp_in i n) (hdg : decode cc pc = .ok (.daload, 1))
    (k : ∀ tx : String, tx = (toString "Index " ++ toString i ++ toString " out of bounds for length " ++ toString n : String) → vx_Note p l e R s m args below meth c H locs cells slots Q (F0 m pc ls rest) "java/lang/ArrayIndexOutOfBoundsException" tx) : W p l e R s m args below meth c H locs cells slots Q (F0 m pc ls (.int i :: .ref a :: rest)) := by
  intro T hT X
  obtain ⟨t, st, q⟩ := k _ rfl T hT X
  refine ⟨t, ?_, q⟩
  have h1 := X.daloadOut hexec (by rw [hT]; exact hP q0 _ ha) ((hK.2 t0 _ ht).1 n (fun j => .double (f j))) (j := i) (by show (i < 0 ∨ (arrV _ _ _).slots.size ≤ _); rw [arrV_size]; exact Classical.byContradiction hout) (g := F0 m pc ls (.int i :: .ref a :: rest)) rfl (rest := rest) rfl (by rw [hb]; exact hdg) t
  simp only [arrV_size] at h1
  exact h1 st
theorem vx_dastZ {D : va_G} {cl : List vw_C} {ws : va_W} {tys : List (ClassId × FieldType)} {a : Nat} (hexec : p.tables.exec = Jvm.exec) (hb : c.code = cc) (hK : va_K D cl tys s) (hP : va_P D cl ws H) (q0 t0 : Nat) {cA : ClassId} {n : Nat} {f : Nat → UInt64} (ha : ws[q0]? = some (a, .inl (cA, n, .inr (.inr (.inr (.inl f)))))) (ht : tys[t0]? = some (cA, .double)) {i : Int32} {x : UInt64} (hout : ¬ vp_in i n) (hdg : decode cc pc = .ok (.dastore, 1))
    (k : ∀ tx : String, tx = (toString "Index " ++ toString i ++ toString " out of bounds for length " ++ toString n : String) → vx_Note p l e R s m args below meth c H locs cells slots Q (F0 m pc ls rest) "java/lang/ArrayIndexOutOfBoundsException" tx) : W p l e R s m args below meth c H locs cells slots Q (F0 m pc ls (.double x :: .int i :: .ref a :: rest)) := by
  intro T hT X
  obtain ⟨t, st, q⟩ := k _ rfl T hT X
  refine ⟨t, ?_, q⟩
  have h1 := X.dastoreOut hexec (by rw [hT]; exact hP q0 _ ha) ((hK.2 t0 _ ht).1 n (fun j => .double (f j))) (j := i) (by show (i < 0 ∨ (arrV _ _ _).slots.size ≤ _); rw [arrV_size]; exact Classical.byContradiction hout) (g := F0 m pc ls (.double x :: .int i :: .ref a :: rest)) rfl (rest := rest) rfl (by rw [hb]; exact hdg) t
  simp only [arrV_size] at h1
  exact h1 st
theorem vx_arraylengthN (hexec : p.tables.exec = Jvm.exec) (hb : c.code = cc) (hdg : decode cc pc = .ok (.arraylength, 1)) (k : vx_NoteN p l e R s m args below meth c H locs cells slots Q (F0 m pc ls rest)) : W p l e R s m args below meth c H locs cells slots Q (F0 m pc ls (.null :: rest)) := by
  intro T hT X
  obtain ⟨t, st, q⟩ := k T hT X
  exact ⟨t, X.arraylengthNull hexec (g := F0 m pc ls (.null :: rest)) rfl (rest := rest) rfl (by rw [hb]; exact hdg) t st, q⟩
theorem vx_ialoadN (hexec : p.tables.exec = Jvm.exec) (hb : c.code = cc) {i : Int32} (hdg : decode cc pc = .ok (.iaload, 1)) (k : vx_NoteN p l e R s m args below meth c H locs cells slots Q (F0 m pc ls rest)) : W p l e R s m args below meth c H locs cells slots Q (F0 m pc ls (.int i :: .null :: rest)) := by
  intro T hT X
  obtain ⟨t, st, q⟩ := k T hT X
  exact ⟨t, X.ialoadNull hexec (g := F0 m pc ls (.int i :: .null :: rest)) rfl (rest := rest) rfl (by rw [hb]; exact hdg) t st, q⟩
theorem vx_laloadN (hexec : p.tables.exec = Jvm.exec) (hb : c.code = cc) {i : Int32} (hdg : decode cc pc = .ok (.laload, 1)) (k : vx_NoteN p l e R s m args below meth c H locs cells slots Q (F0 m pc ls rest)) : W p l e R s m args below meth c H locs cells slots Q (F0 m pc ls (.int i :: .null :: rest)) := by
  intro T hT X
  obtain ⟨t, st, q⟩ := k T hT X
  exact ⟨t, X.laloadNull hexec (g := F0 m pc ls (.int i :: .null :: rest)) rfl (rest := rest) rfl (by rw [hb]; exact hdg) t st, q⟩
theorem vx_faloadN (hexec : p.tables.exec = Jvm.exec) (hb : c.code = cc) {i : Int32} (hdg : decode cc pc = .ok (.faload, 1)) (k : vx_NoteN p l e R s m args below meth c H locs cells slots Q (F0 m pc ls rest)) : W p l e R s m args below meth c H locs cells slots Q (F0 m pc ls (.int i :: .null :: rest)) := by
  intro T hT X
  obtain ⟨t, st, q⟩ := k T hT X
  exact ⟨t, X.faloadNull hexec (g := F0 m pc ls (.int i :: .null :: rest)) rfl (rest := rest) rfl (by rw [hb]; exact hdg) t st, q⟩
theorem vx_daloadN (hexec : p.tables.exec = Jvm.exec) (hb : c.code = cc) {i : Int32} (hdg : decode cc pc = .ok (.daload, 1)) (k : vx_NoteN p l e R s m args below meth c H locs cells slots Q (F0 m pc ls rest)) : W p l e R s m args below meth c H locs cells slots Q (F0 m pc ls (.int i :: .null :: rest)) := by
  intro T hT X
  obtain ⟨t, st, q⟩ := k T hT X
  exact ⟨t, X.daloadNull hexec (g := F0 m pc ls (.int i :: .null :: rest)) rfl (rest := rest) rfl (by rw [hb]; exact hdg) t st, q⟩
theorem vx_aaloadN (hexec : p.tables.exec = Jvm.exec) (hb : c.code = cc) {i : Int32} (hdg : decode cc pc = .ok (.aaload, 1)) (k : vx_NoteN p l e R s m args below meth c H locs cells slots Q (F0 m pc ls rest)) : W p l e R s m args below meth c H locs cells slots Q (F0 m pc ls (.int i :: .null :: rest)) := by
  intro T hT X
  obtain ⟨t, st, q⟩ := k T hT X
  exact ⟨t, X.aaloadNull hexec (g := F0 m pc ls (.int i :: .null :: rest)) rfl (rest := rest) rfl (by rw [hb]; exact hdg) t st, q⟩
theorem vx_baloadN (hexec : p.tables.exec = Jvm.exec) (hb : c.code = cc) {i : Int32} (hdg : decode cc pc = .ok (.baload, 1)) (k : vx_NoteN p l e R s m args below meth c H locs cells slots Q (F0 m pc ls rest)) : W p l e R s m args below meth c H locs cells slots Q (F0 m pc ls (.int i :: .null :: rest)) := by
  intro T hT X
  obtain ⟨t, st, q⟩ := k T hT X
  exact ⟨t, X.baloadNull hexec (g := F0 m pc ls (.int i :: .null :: rest)) rfl (rest := rest) rfl (by rw [hb]; exact hdg) t st, q⟩
theorem vx_caloadN (hexec : p.tables.exec = Jvm.exec) (hb : c.code = cc) {i : Int32} (hdg : decode cc pc = .ok (.caload, 1)) (k : vx_NoteN p l e R s m args below meth c H locs cells slots Q (F0 m pc ls rest)) : W p l e R s m args below meth c H locs cells slots Q (F0 m pc ls (.int i :: .null :: rest)) := by
  intro T hT X
  obtain ⟨t, st, q⟩ := k T hT X
  exact ⟨t, X.caloadNull hexec (g := F0 m pc ls (.int i :: .null :: rest)) rfl (rest := rest) rfl (by rw [hb]; exact hdg) t st, q⟩
theorem vx_saloadN (hexec : p.tables.exec = Jvm.exec) (hb : c.code = cc) {i : Int32} (hdg : decode cc pc = .ok (.saload, 1)) (k : vx_NoteN p l e R s m args below meth c H locs cells slots Q (F0 m pc ls rest)) : W p l e R s m args below meth c H locs cells slots Q (F0 m pc ls (.int i :: .null :: rest)) := by
  intro T hT X
  obtain ⟨t, st, q⟩ := k T hT X
  exact ⟨t, X.saloadNull hexec (g := F0 m pc ls (.int i :: .null :: rest)) rfl (rest := rest) rfl (by rw [hb]; exact hdg) t st, q⟩
theorem vx_iastoreN (hexec : p.tables.exec = Jvm.exec) (hb : c.code = cc) {x : Int32} {i : Int32} (hdg : decode cc pc = .ok (.iastore, 1)) (k : vx_NoteN p l e R s m args below meth c H locs cells slots Q (F0 m pc ls rest)) : W p l e R s m args below meth c H locs cells slots Q (F0 m pc ls (.int x :: .int i :: .null :: rest)) := by
  intro T hT X
  obtain ⟨t, st, q⟩ := k T hT X
  exact ⟨t, X.iastoreNull hexec (g := F0 m pc ls (.int x :: .int i :: .null :: rest)) rfl (rest := rest) rfl (by rw [hb]; exact hdg) t st, q⟩
theorem vx_lastoreN (hexec : p.tables.exec = Jvm.exec) (hb : c.code = cc) {x : Int64} {i : Int32} (hdg : decode cc pc = .ok (.lastore, 1)) (k : vx_NoteN p l e R s m args below meth c H locs cells slots Q (F0 m pc ls rest)) : W p l e R s m args below meth c H locs cells slots Q (F0 m pc ls (.long x :: .int i :: .null :: rest)) := by
  intro T hT X
  obtain ⟨t, st, q⟩ := k T hT X
  exact ⟨t, X.lastoreNull hexec (g := F0 m pc ls (.long x :: .int i :: .null :: rest)) rfl (rest := rest) rfl (by rw [hb]; exact hdg) t st, q⟩
theorem vx_fastoreN (hexec : p.tables.exec = Jvm.exec) (hb : c.code = cc) {x : UInt32} {i : Int32} (hdg : decode cc pc = .ok (.fastore, 1)) (k : vx_NoteN p l e R s m args below meth c H locs cells slots Q (F0 m pc ls rest)) : W p l e R s m args below meth c H locs cells slots Q (F0 m pc ls (.float x :: .int i :: .null :: rest)) := by
  intro T hT X
  obtain ⟨t, st, q⟩ := k T hT X
  exact ⟨t, X.fastoreNull hexec (g := F0 m pc ls (.float x :: .int i :: .null :: rest)) rfl (rest := rest) rfl (by rw [hb]; exact hdg) t st, q⟩
theorem vx_dastoreN (hexec : p.tables.exec = Jvm.exec) (hb : c.code = cc) {x : UInt64} {i : Int32} (hdg : decode cc pc = .ok (.dastore, 1)) (k : vx_NoteN p l e R s m args below meth c H locs cells slots Q (F0 m pc ls rest)) : W p l e R s m args below meth c H locs cells slots Q (F0 m pc ls (.double x :: .int i :: .null :: rest)) := by
  intro T hT X
  obtain ⟨t, st, q⟩ := k T hT X
  exact ⟨t, X.dastoreNull hexec (g := F0 m pc ls (.double x :: .int i :: .null :: rest)) rfl (rest := rest) rfl (by rw [hb]; exact hdg) t st, q⟩
theorem vx_bastoreN (hexec : p.tables.exec = Jvm.exec) (hb : c.code = cc) {x : Int32} {i : Int32} (hdg : decode cc pc = .ok (.bastore, 1)) (k : vx_NoteN p l e R s m args below meth c H locs cells slots Q (F0 m pc ls rest)) : W p l e R s m args below meth c H locs cells slots Q (F0 m pc ls (.int x :: .int i :: .null :: rest)) := by
  intro T hT X
  obtain ⟨t, st, q⟩ := k T hT X
  exact ⟨t, X.bastoreNull hexec (g := F0 m pc ls (.int x :: .int i :: .null :: rest)) rfl (rest := rest) rfl (by rw [hb]; exact hdg) t st, q⟩
theorem vx_castoreN (hexec : p.tables.exec = Jvm.exec) (hb : c.code = cc) {x : Int32} {i : Int32} (hdg : decode cc pc = .ok (.castore, 1)) (k : vx_NoteN p l e R s m args below meth c H locs cells slots Q (F0 m pc ls rest)) : W p l e R s m args below meth c H locs cells slots Q (F0 m pc ls (.int x :: .int i :: .null :: rest)) := by
  intro T hT X
  obtain ⟨t, st, q⟩ := k T hT X
  exact ⟨t, X.castoreNull hexec (g := F0 m pc ls (.int x :: .int i :: .null :: rest)) rfl (rest := rest) rfl (by rw [hb]; exact hdg) t st, q⟩
theorem vx_sastoreN (hexec : p.tables.exec = Jvm.exec) (hb : c.code = cc) {x : Int32} {i : Int32} (hdg : decode cc pc = .ok (.sastore, 1)) (k : vx_NoteN p l e R s m args below meth c H locs cells slots Q (F0 m pc ls rest)) : W p l e R s m args below meth c H locs cells slots Q (F0 m pc ls (.int x :: .int i :: .null :: rest)) := by
  intro T hT X
  obtain ⟨t, st, q⟩ := k T hT X
  exact ⟨t, X.sastoreNull hexec (g := F0 m pc ls (.int x :: .int i :: .null :: rest)) rfl (rest := rest) rfl (by rw [hb]; exact hdg) t st, q⟩
theorem vx_invokeN {own C : String} {index maxL : Nat} {y : MethodName} {bytes : ByteArray} {ret : Option FieldType} (hexec : p.tables.exec = Jvm.exec) (hb : c.code = cc) (hown : s.vm.findClass own = some m.cls) (hlink : (Cond.methodLink own index y).before args s = true) (hinst : (Cond.instanceMethod y).before args s = true) (hcode : (Cond.code y bytes maxL ret).before args s = true) (hsel : (Cond.selects C y y).before args s = true)
    (hx : y.cls ≠ "java/lang/invoke/MethodHandle" ∧ y.cls ≠ "java/lang/invoke/VarHandle") {As : List Value} (hlen : (parseMethodDescriptor y.desc).map (fun d => d.parameters.length) = some As.length) (hdg : decode cc pc = .ok (.invokevirtual index, 3))
    (k : vx_NoteN p l e R s m args below meth c H locs cells slots Q (F0 m pc ls rest)) {st0 : List Value} (hst : st0 = As.reverse ++ .null :: rest) : W p l e R s m args below meth c H locs cells slots Q (F0 m pc ls st0) := by
  intro T hT X
  obtain ⟨r0, r, hn, hrm, hstR, hsigR⟩ := va_Decl.of hinst hcode
  obtain ⟨c2, r2, m2, q1, q2, q3, q4, kP, hkP, hkPi⟩ := Cond.selects_spec hsel
  cases hn.symm.trans q3
  have hl9 : As.length = r.sig.parameters.length := by
    rw [hsigR] at hlen
    exact (Option.some.inj hlen).symm
  obtain ⟨vm', X1, st1⟩ := X.invokevirtualNull hexec hown hlink hn hrm hstR hkP hkPi hx (g := F0 m pc ls st0) rfl (argsL := As) (rest := rest) hl9 hst (by rw [hb]; exact hdg)
  obtain ⟨t, st, q⟩ := k (T.setVm vm') hT X1
  exact ⟨t, st1 t st, q⟩
theorem vx_newarrayZ {atype : ArrayType} (hexec : p.tables.exec = Jvm.exec) (hb : c.code = cc) {n : Int32} (h0 : n < 0) (hdg : decode cc pc = .ok (.newarray atype, 2)) (k : ∀ tx : String, tx = toString n → vx_Note p l e R s m args below meth c H locs cells slots Q (F0 m pc ls rest) "java/lang/NegativeArraySizeException" tx) : W p l e R s m args below meth c H locs cells slots Q (F0 m pc ls (.int n :: rest)) := by
  intro T hT X
  obtain ⟨t, st, q⟩ := k _ rfl T hT X
  exact ⟨t, X.newarrayNegative hexec (g := F0 m pc ls (.int n :: rest)) rfl h0 (rest := rest) rfl (by rw [hb]; exact hdg) t st, q⟩
end
end VXM
/-! ===== END ===== -/
end
section
section MJ
abbrev mE : Type := (FieldType × vp_A) ⊕ (Nat × List Value)
abbrev mH : Type := List mE
/-- a method: name, bytes, locals, return type, exception table -/
abbrev MI : Type := MethodName × ByteArray × Nat × Option FieldType × List (Nat × Nat × Nat × Nat)
def mj_al {α β : Type} (R : α → β → Prop) : List α → List β → Prop
  | [], [] => True
  | a :: l, b :: m => R a b ∧ mj_al R l m
  | _, _ => False
/-- a value of the small machine and a value of the machine: a reference is a place in the list of addresses; retAddr 0: some reference; retAddr k: a reference that is known -/
def mj_vr (as : List Nat) (sp : Nat → Nat) (v w : Value) : Prop := match v with
  | .ref i => ∃ a, as[i]? = some a ∧ w = .ref a
  | .retAddr k => ∃ a, w = .ref a ∧ (k = 0 ∨ a = sp k)
  | v => w = v
def mj_lr (as : List Nat) (sp : Nat → Nat) (q q' : Nat × Value) : Prop := q'.1 = q.1 ∧ mj_vr as sp q.2 q'.2
def mj_or (as : List Nat) (sp : Nat → Nat) (v w : Option Value) : Prop := match v with
  | none => w = none
  | some v => ∃ w', w = some w' ∧ mj_vr as sp v w'
def mj_qr (as : List Nat) (x y : Option Nat) : Prop := match x with
  | none => y = none
  | some i => ∃ a, as[i]? = some a ∧ y = some a
def mj_ar (as : List Nat) (x y : vp_A) : Prop := x.1 = y.1 ∧ match x.2, y.2 with
  | .inl f, .inl g => f = g
  | .inr (.inl f), .inr (.inl g) => f = g
  | .inr (.inr (.inl f)), .inr (.inr (.inl g)) => f = g
  | .inr (.inr (.inr (.inl f))), .inr (.inr (.inr (.inl g))) => f = g
  | .inr (.inr (.inr (.inr f))), .inr (.inr (.inr (.inr g))) => ∀ j, mj_qr as (f j) (g j)
  | _, _ => False
def mj_er (as : List Nat) (sp : Nat → Nat) (tys : List (ClassId × FieldType)) (e : mE) (q : va_E) : Prop := match e, q with
  | .inl (ty, x), .inl (cA, y) => (∃ t : Nat, tys[t]? = some (cA, ty)) ∧ mj_ar as x y
  | .inr (ci, fs), .inr (cj, gs) => ci = cj ∧ mj_al (mj_vr as sp) fs gs
  | _, _ => False
def mj_hr (as : List Nat) (sp : Nat → Nat) (tys : List (ClassId × FieldType)) (M : mH) (ws : va_W) : Prop :=
  as.length = M.length ∧ ws.length = M.length ∧ ∀ (i : Nat) (e : mE), M[i]? = some e → ∃ (a : Nat) (q : va_E), as[i]? = some a ∧ ws[i]? = some (a, q) ∧ mj_er as sp tys e q
def mj_WR (D : va_G) (cl : List vw_C) (sp : Nat → Nat) (A : Nat → Prop) (U : State) (as : List Nat) (M : mH) (H : Heap) : Prop :=
  ∃ (ws : va_W) (tys : List (ClassId × FieldType)), va_K D cl tys U ∧ va_P D cl ws H ∧ va_D A ws ∧ mj_hr as sp tys M ws
def mj_le (as as1 : List Nat) : Prop := ∀ (i a : Nat), as[i]? = some a → as1[i]? = some a
abbrev XT : Type := (Nat → Prop) → (Nat → Nat) → State → Heap → Prop
def mj_XOK (X : XT) : Prop :=
  (∀ A sp U H H1, X A sp U H → H.size ≤ H1.size → (∀ q : Nat, q < H.size → ¬ A q → H1[q]? = H[q]?) → X A sp U H1) ∧
  (∀ A B sp U H, (∀ q, B q → A q) → X A sp U H → X B sp U H) ∧
  (∀ A sp (U T : State) H, U.WarmedH T.vm → X A sp U H → X A sp T H) ∧
  (∀ A sp (U T : State) H, T.vm = U.vm → X A sp U H → X A sp T H)
def mj_FX (TT : List Cond) (X : XT) (mi : MI) (fr lo : Nat) (p : Program) (l : Launch) (R : Room) (s : State) (m : MethodId) (args : Array Value) (meth : Method) (c : Code) (free : Addr → Prop) (sp : Nat → Nat) (A : Nat → Prop) : Prop :=
  p.tables.exec = Jvm.exec ∧ c.code = mi.2.1 ∧ c.maxLocals = mi.2.2.1 ∧ s.vm.findClass mi.1.cls = some m.cls ∧ (∀ w ∈ TT, w.before args s = true) ∧ meth.sig.returnType = mi.2.2.2.1 ∧ meth.locks = false ∧ c.exceptionTable.toList = tableOf mi.2.2.2.2 ∧ meth.name = mi.1.name ∧ l.stackTraces = false ∧ fr ≤ R.frames ∧ lo ≤ R.locals ∧ (∀ q : Nat, s.heap.size ≤ q → A q) ∧ (∀ q, A q → free q) ∧ X A sp s s.heap ∧ mj_XOK X
def mj_KQ (cl : List vw_C) (P : Option Value → mH → Prop) (s : State) (args : Array Value) (D : va_G) (sp : Nat → Nat) (A : Nat → Prop) (as0 : List Nat) (Qc : Array Value → State → Outcome → State → Prop) : Prop :=
  ∀ (as : List Nat) (M : mH) (v w : Option Value) (t : State), P v M → mj_or as sp v w → s.WarmedH t.vm → mj_WR D cl sp A s as M t.heap → va_F A s t → mj_le as0 as → Qc args s (.returned w) t
def mj_KX (cl : List vw_C) (PX : String → mH → Prop) (s : State) (D : va_G) (sp : Nat → Nat) (A : Nat → Prop) (as0 : List Nat) (XC : String → State → State → Prop) : Prop :=
  ∀ (as : List Nat) (E : String) (M : mH) (t : State), PX E M → s.vm.Alike t.vm → mj_WR D cl sp A s as M t.heap → va_F A s t → mj_le as0 as → XC E s t
/-- the body of a method, at an instruction, with so many frames, words of locals, cells and slots left: it comes to a return with P, or throws with PX -/
def LX (TT : List Cond) (cl : List vw_C) (X : XT) (mi : MI) (fr lo : Nat) (P : Option Value → mH → Prop) (PX : String → mH → Prop) (kc ks pc : Nat) (L : List (Nat × Value)) (S : List Value) (M : mH) : Prop :=
  ∀ (p : Program) (l : Launch) (e : Env) (R : Room) (s : State) (m : MethodId) (args : Array Value) (below : List Frame) (meth : Method) (c : Code) (Qc : Array Value → State → Outcome → State → Prop) (XC : String → State → State → Prop) (free : Addr → Prop) (D : va_G) (sp : Nat → Nat) (A : Nat → Prop) (as0 : List Nat),
    mj_FX TT X mi fr lo p l R s m args meth c free sp A → mj_KQ cl P s args D sp A as0 Qc → mj_KX cl PX s D sp A as0 XC →
    ∀ (as : List Nat) (L1 : List (Nat × Value)) (S1 : List Value) (H : Heap) (locs : List Loc) (cells slots : Nat) (ls : Array Slot),
      mj_le as0 as → mj_WR D cl sp A s as M H → va_S A s.heap H locs → lv_has ls mi.2.2.1 L1 → mj_al (mj_lr as sp) L L1 → mj_al (mj_vr as sp) S S1 → cells + kc ≤ R.cells → slots + ks ≤ R.slots →
      W p l e R s m args below meth c H locs cells slots (vx_MQ below Qc XC args s R.cells R.slots free) (F0 m pc ls S1)
-- ===== lists =====
theorem mj_al_nil {α β : Type} {R : α → β → Prop} {m : List β} (h : mj_al R [] m) : m = [] := by
  cases m with
  | nil => rfl
  | cons => exact h.elim
theorem mj_al_cons {α β : Type} {R : α → β → Prop} {a : α} {l : List α} {m : List β} (h : mj_al R (a :: l) m) : ∃ b m1, m = b :: m1 ∧ R a b ∧ mj_al R l m1 := by
  cases m with
  | nil => exact h.elim
  | cons b m1 => exact ⟨b, m1, rfl, h.1, h.2⟩
theorem mj_al_mono {α β : Type} {R R1 : α → β → Prop} (hR : ∀ a b, R a b → R1 a b) : ∀ {l : List α} {m : List β}, mj_al R l m → mj_al R1 l m := by
  intro l
  induction l with
  | nil => intro m h; rw [mj_al_nil h]; trivial
  | cons a l ih =>
    intro m h
    obtain ⟨b, m1, rfl, h1, h2⟩ := mj_al_cons h
    exact ⟨hR _ _ h1, ih h2⟩
theorem mj_al_len {α β : Type} {R : α → β → Prop} : ∀ {l : List α} {m : List β}, mj_al R l m → m.length = l.length := by
  intro l
  induction l with
  | nil => intro m h; rw [mj_al_nil h]; rfl
  | cons a l ih =>
    intro m h
    obtain ⟨b, m1, rfl, h1, h2⟩ := mj_al_cons h
    simp [ih h2]
theorem mj_al_get {α β : Type} {R : α → β → Prop} : ∀ {l : List α} {m : List β} {k : Nat} {a : α}, mj_al R l m → l[k]? = some a → ∃ b, m[k]? = some b ∧ R a b := by
  intro l
  induction l with
  | nil => intro m k a h hk; simp at hk
  | cons a0 l ih =>
    intro m k a h hk
    obtain ⟨b, m1, rfl, h1, h2⟩ := mj_al_cons h
    cases k with
    | zero => simp at hk; subst hk; exact ⟨b, by simp, h1⟩
    | succ k => simp at hk; simpa using ih h2 hk
theorem mj_al_set {α β : Type} {R : α → β → Prop} {a : α} {b : β} (hab : R a b) : ∀ {l : List α} {m : List β} {k : Nat}, mj_al R l m → mj_al R (l.set k a) (m.set k b) := by
  intro l
  induction l with
  | nil => intro m k h; rw [mj_al_nil h]; trivial
  | cons a0 l ih =>
    intro m k h
    obtain ⟨b0, m1, rfl, h1, h2⟩ := mj_al_cons h
    cases k with
    | zero => exact ⟨hab, h2⟩
    | succ k => exact ⟨h1, ih h2⟩
theorem mj_al_app {α β : Type} {R : α → β → Prop} {l2 : List α} {m2 : List β} (h2 : mj_al R l2 m2) : ∀ {l : List α} {m : List β}, mj_al R l m → mj_al R (l ++ l2) (m ++ m2) := by
  intro l
  induction l with
  | nil => intro m h; rw [mj_al_nil h]; exact h2
  | cons a0 l ih =>
    intro m h
    obtain ⟨b0, m1, rfl, h1, h3⟩ := mj_al_cons h
    exact ⟨h1, ih h3⟩
theorem mj_al_split {α β : Type} {R : α → β → Prop} {l2 : List α} : ∀ {l : List α} {m : List β}, mj_al R (l ++ l2) m → ∃ m1 m2, m = m1 ++ m2 ∧ mj_al R l m1 ∧ mj_al R l2 m2 := by
  intro l
  induction l with
  | nil => intro m h; exact ⟨[], m, rfl, trivial, h⟩
  | cons a0 l ih =>
    intro m h
    obtain ⟨b0, m1, rfl, h1, h3⟩ := mj_al_cons h
    obtain ⟨x, y, rfl, h4, h5⟩ := ih h3
    exact ⟨b0 :: x, y, rfl, ⟨h1, h4⟩, h5⟩
theorem mj_al_rev {α β : Type} {R : α → β → Prop} : ∀ {l : List α} {m : List β}, mj_al R l m → mj_al R l.reverse m.reverse := by
  intro l
  induction l with
  | nil => intro m h; rw [mj_al_nil h]; trivial
  | cons a0 l ih =>
    intro m h
    obtain ⟨b0, m1, rfl, h1, h3⟩ := mj_al_cons h
    rw [List.reverse_cons, List.reverse_cons]
    exact mj_al_app (show mj_al R [a0] [b0] from ⟨h1, trivial⟩) (ih h3)
theorem mj_al_filter {α β : Type} {R : α → β → Prop} {f : α → Bool} {g : β → Bool} (hfg : ∀ a b, R a b → f a = g b) : ∀ {l : List α} {m : List β}, mj_al R l m → mj_al R (l.filter f) (m.filter g) := by
  intro l
  induction l with
  | nil => intro m h; rw [mj_al_nil h]; trivial
  | cons a0 l ih =>
    intro m h
    obtain ⟨b0, m1, rfl, h1, h3⟩ := mj_al_cons h
    rw [List.filter_cons, List.filter_cons, hfg _ _ h1]
    cases g b0 with
    | true => exact ⟨h1, ih h3⟩
    | false => exact ih h3
theorem mj_al_mem {α β : Type} {R : α → β → Prop} {a : α} : ∀ {l : List α} {m : List β}, mj_al R l m → a ∈ l → ∃ b, b ∈ m ∧ R a b := by
  intro l
  induction l with
  | nil => intro m h ha; cases ha
  | cons a0 l ih =>
    intro m h ha
    obtain ⟨b0, m1, rfl, h1, h3⟩ := mj_al_cons h
    rcases List.mem_cons.mp ha with rfl | ha
    · exact ⟨b0, List.mem_cons_self, h1⟩
    · obtain ⟨b, hb, hr⟩ := ih h3 ha
      exact ⟨b, List.mem_cons_of_mem _ hb, hr⟩
-- ===== relations grow =====
theorem mj_le_rf {as : List Nat} : mj_le as as := fun _ _ h => h
theorem mj_le_tr {as bs ds : List Nat} (h : mj_le as bs) (h1 : mj_le bs ds) : mj_le as ds := fun i a q => h1 i a (h i a q)
theorem mj_le_app {as bs : List Nat} : mj_le as (as ++ bs) := fun i a h => by
  have := (List.getElem?_eq_some_iff.mp h).1
  rw [List.getElem?_append_left this]; exact h
theorem mj_vr_mono {as as1 : List Nat} {sp : Nat → Nat} (h : mj_le as as1) {v w : Value} (hv : mj_vr as sp v w) : mj_vr as1 sp v w := by
  cases v with
  | ref i => obtain ⟨a, h1, h2⟩ := hv; exact ⟨a, h _ _ h1, h2⟩
  | retAddr k => exact hv
  | int x => exact hv
  | long x => exact hv
  | float x => exact hv
  | double x => exact hv
  | null => exact hv
theorem mj_lr_mono {as as1 : List Nat} {sp : Nat → Nat} (h : mj_le as as1) {v w : Nat × Value} (hv : mj_lr as sp v w) : mj_lr as1 sp v w := ⟨hv.1, mj_vr_mono h hv.2⟩
theorem mj_qr_mono {as as1 : List Nat} (h : mj_le as as1) {v w : Option Nat} (hv : mj_qr as v w) : mj_qr as1 v w := by
  cases v with
  | none => exact hv
  | some i => obtain ⟨a, h1, h2⟩ := hv; exact ⟨a, h _ _ h1, h2⟩
theorem mj_ar_mono {as as1 : List Nat} (h : mj_le as as1) {x y : vp_A} (hv : mj_ar as x y) : mj_ar as1 x y := by
  obtain ⟨n, x⟩ := x
  obtain ⟨n1, y⟩ := y
  refine ⟨hv.1, ?_⟩
  have h2 := hv.2
  rcases x with f | f | f | f | f <;> rcases y with g | g | g | g | g <;> first | exact h2 | exact fun j => mj_qr_mono h (h2 j)
theorem mj_er_mono {as as1 : List Nat} {sp : Nat → Nat} {tys tys1 : List (ClassId × FieldType)} (h : mj_le as as1) (ht : ∀ (i : Nat) (q : ClassId × FieldType), tys[i]? = some q → tys1[i]? = some q) {x : mE} {y : va_E} (hv : mj_er as sp tys x y) : mj_er as1 sp tys1 x y := by
  rcases x with ⟨ty, x⟩ | ⟨ci, fs⟩ <;> rcases y with ⟨cA, y⟩ | ⟨cj, gs⟩
  · obtain ⟨⟨t, h1⟩, h2⟩ := hv; exact ⟨⟨t, ht _ _ h1⟩, mj_ar_mono h h2⟩
  · exact hv.elim
  · exact hv.elim
  · exact ⟨hv.1, mj_al_mono (fun a b q => mj_vr_mono h q) hv.2⟩
theorem mj_vr_cat {as : List Nat} {sp : Nat → Nat} {v w : Value} (h : mj_vr as sp v w) : w.category = v.category := by
  cases v with
  | ref i => obtain ⟨a, h1, rfl⟩ := h; rfl
  | retAddr k => obtain ⟨a, rfl, h1⟩ := h; rfl
  | int x => rw [show w = _ from h]
  | long x => rw [show w = _ from h]
  | float x => rw [show w = _ from h]
  | double x => rw [show w = _ from h]
  | null => rw [show w = _ from h]
theorem mj_al_cat {as : List Nat} {sp : Nat → Nat} : ∀ {S S1 : List Value}, mj_al (mj_vr as sp) S S1 → (S1.map fun v => v.category).sum = (S.map fun v => v.category).sum := by
  intro S
  induction S with
  | nil => intro S1 h; rw [mj_al_nil h]
  | cons a l ih =>
    intro S1 h
    obtain ⟨b, m1, rfl, h1, h2⟩ := mj_al_cons h
    simp [mj_vr_cat h1, ih h2]
theorem mj_WR_weaken {D : va_G} {cl : List vw_C} {sp : Nat → Nat} {A B : Nat → Prop} {U : State} {as : List Nat} {M : mH} {H : Heap} (h : mj_WR D cl sp A U as M H) (hB : ∀ a, a ∈ as → B a) : mj_WR D cl sp B U as M H := by
  obtain ⟨ws, tys, h1, h2, h3, h4⟩ := h
  refine ⟨ws, tys, h1, h2, ⟨h3.1, fun k q hk => hB _ ?_⟩, h4⟩
  have hlt : k < M.length := by rw [← h4.2.1]; exact (List.getElem?_eq_some_iff.mp hk).1
  obtain ⟨a, q1, e1, e2, -⟩ := h4.2.2 k _ (List.getElem?_eq_getElem hlt)
  rw [hk] at e2
  cases e2
  exact List.mem_of_getElem? e1
theorem mj_WR_A {D : va_G} {cl : List vw_C} {sp : Nat → Nat} {A : Nat → Prop} {U : State} {as : List Nat} {M : mH} {H : Heap} (h : mj_WR D cl sp A U as M H) {a : Nat} (ha : a ∈ as) : A a := by
  obtain ⟨ws, tys, h1, h2, h3, h4⟩ := h
  obtain ⟨i, hi⟩ := List.getElem?_of_mem ha
  have hlt : i < M.length := by rw [← h4.1]; exact (List.getElem?_eq_some_iff.mp hi).1
  obtain ⟨a1, q1, e1, e2, -⟩ := h4.2.2 i _ (List.getElem?_eq_getElem hlt)
  rw [hi] at e1
  cases e1
  exact h3.2 i _ e2
theorem mj_WR_moved {D : va_G} {cl : List vw_C} {sp : Nat → Nat} {A : Nat → Prop} {u U : State} {as : List Nat} {M : mH} {H : Heap} (hvm : u.vm.Alike U.vm) (h : mj_WR D cl sp A u as M H) : mj_WR D cl sp A U as M H := by
  obtain ⟨ws, tys, h1, h2, h3, h4⟩ := h
  exact ⟨ws, tys, va_K.moved hvm h1, h2, h3, h4⟩
end MJ
end
section
section MJR1
/-- what a local holds -/
def mj_get (L : List (Nat × Value)) (i : Nat) : Option Value := (L.find? (fun q => q.1 == i)).map (fun q => q.2)
def mj_put1 (i : Nat) (v : Value) (L : List (Nat × Value)) : List (Nat × Value) := (i, v) :: L.filter (fun q => !(q.1 == i) && !(q.1 + 1 == i && q.2.category == 2))
def mj_put2 (i : Nat) (v : Value) (L : List (Nat × Value)) : List (Nat × Value) := (i, v) :: L.filter (fun q => !(q.1 == i) && (!(q.1 == i + 1) && !(q.1 + 1 == i && q.2.category == 2)))
def mj_isr (v : Value) : Bool := match v with | .ref _ => true | .retAddr _ => true | .null => true | _ => false
def mj_isR (v : Value) : Bool := match v with | .ref _ => true | .retAddr _ => true | _ => false
theorem mj_isr_spec {as : List Nat} {sp : Nat → Nat} {v w : Value} (h : mj_isr v = true) (hr : mj_vr as sp v w) : (∃ a, w = .ref a) ∨ w = .null := by
  cases v with
  | ref i => obtain ⟨a, h1, h2⟩ := hr; exact Or.inl ⟨a, h2⟩
  | retAddr k => obtain ⟨a, h2, h1⟩ := hr; exact Or.inl ⟨a, h2⟩
  | null => exact Or.inr hr
  | int x => cases h
  | long x => cases h
  | float x => cases h
  | double x => cases h
theorem mj_isR_spec {as : List Nat} {sp : Nat → Nat} {v w : Value} (h : mj_isR v = true) (hr : mj_vr as sp v w) : ∃ a, w = .ref a := by
  cases v with
  | ref i => obtain ⟨a, h1, h2⟩ := hr; exact ⟨a, h2⟩
  | retAddr k => obtain ⟨a, h2, h1⟩ := hr; exact ⟨a, h2⟩
  | null => cases h
  | int x => cases h
  | long x => cases h
  | float x => cases h
  | double x => cases h
theorem mj_get_mem {L : List (Nat × Value)} {i : Nat} {v : Value} (h : mj_get L i = some v) : (i, v) ∈ L := by
  unfold mj_get at h
  cases hf : L.find? (fun q => q.1 == i) with
  | none => rw [hf] at h; cases h
  | some q =>
    rw [hf] at h
    have h1 := List.find?_some hf
    have h2 := List.mem_of_find?_eq_some hf
    have e1 : q.1 = i := by simpa using h1
    have e2 : q.2 = v := by simpa using h
    rw [← e1, ← e2]
    exact h2
theorem mj_ldk {as : List Nat} {sp : Nat → Nat} {L L1 : List (Nat × Value)} (hL : mj_al (mj_lr as sp) L L1) {i : Nat} {v : Value} (hg : mj_get L i = some v) : ∃ (k : Nat) (w : Value), L1[k]? = some (i, w) ∧ mj_vr as sp v w := by
  obtain ⟨k, hk⟩ := List.getElem?_of_mem (mj_get_mem hg)
  obtain ⟨⟨j, w⟩, h1, h2, h3⟩ := mj_al_get hL hk
  cases (show j = i from h2)
  exact ⟨k, w, h1, h3⟩
theorem mj_ldr {as : List Nat} {sp : Nat → Nat} {ls : Array Slot} {nL : Nat} {L L1 : List (Nat × Value)} (hl : lv_has ls nL L1) (hL : mj_al (mj_lr as sp) L L1) {i : Nat} {v : Value} (hg : mj_get L i = some v) : ∃ w, ls[i]? = some (.val w) ∧ mj_vr as sp v w := by
  obtain ⟨k, w, h1, h2⟩ := mj_ldk hL hg
  exact ⟨w, lv_at hl k h1, h2⟩
def mj_pl (v : Value) : Bool := match v with | .ref _ => false | .retAddr _ => false | _ => true
theorem mj_pl_eq {as : List Nat} {sp : Nat → Nat} {v w : Value} (h : mj_pl v = true) (hr : mj_vr as sp v w) : w = v := by
  cases v with
  | ref i => cases h
  | retAddr k => cases h
  | null => exact hr
  | int x => exact hr
  | long x => exact hr
  | float x => exact hr
  | double x => exact hr
theorem mj_pl_rf {as : List Nat} {sp : Nat → Nat} {v : Value} (h : mj_pl v = true) : mj_vr as sp v v := by
  cases v with
  | ref i => cases h
  | retAddr k => cases h
  | null => rfl
  | int x => rfl
  | long x => rfl
  | float x => rfl
  | double x => rfl
theorem mj_ld {as : List Nat} {sp : Nat → Nat} {ls : Array Slot} {nL : Nat} {L L1 : List (Nat × Value)} (hl : lv_has ls nL L1) (hL : mj_al (mj_lr as sp) L L1) {i : Nat} {v : Value} (hg : mj_get L i = some v) (hv : mj_pl v = true) : ls[i]? = some (.val v) := by
  obtain ⟨w, h1, h2⟩ := mj_ldr hl hL hg
  rw [mj_pl_eq hv h2] at h1
  exact h1
theorem mj_put1_al {as : List Nat} {sp : Nat → Nat} {i : Nat} {v w : Value} (hv : mj_vr as sp v w) {L L1 : List (Nat × Value)} (hL : mj_al (mj_lr as sp) L L1) : mj_al (mj_lr as sp) (mj_put1 i v L) ((i, w) :: L1.filter (fun q => !(q.1 == i) && !(q.1 + 1 == i && q.2.category == 2))) :=
  ⟨⟨rfl, hv⟩, mj_al_filter (fun a b h => by rw [h.1, mj_vr_cat h.2]) hL⟩
theorem mj_put2_al {as : List Nat} {sp : Nat → Nat} {i : Nat} {v w : Value} (hv : mj_vr as sp v w) {L L1 : List (Nat × Value)} (hL : mj_al (mj_lr as sp) L L1) : mj_al (mj_lr as sp) (mj_put2 i v L) ((i, w) :: L1.filter (fun q => !(q.1 == i) && (!(q.1 == i + 1) && !(q.1 + 1 == i && q.2.category == 2)))) :=
  ⟨⟨rfl, hv⟩, mj_al_filter (fun a b h => by rw [h.1, mj_vr_cat h.2]) hL⟩
theorem mj_pick {as : List Nat} {sp : Nat → Nat} {L L1 : List (Nat × Value)} (hL : mj_al (mj_lr as sp) L L1) (is : List Nat) : ∃ L3, lv_pick L1 is = L3 ∧ mj_al (mj_lr as sp) (lv_pick L is) L3 := by
  refine ⟨_, rfl, ?_⟩
  induction is with
  | nil => trivial
  | cons i is ih =>
    unfold lv_pick at ih ⊢
    rw [List.filterMap_cons, List.filterMap_cons]
    cases hk : L[i]? with
    | none =>
      have : L1[i]? = none := by
        rw [List.getElem?_eq_none_iff, mj_al_len hL]
        exact List.getElem?_eq_none_iff.mp hk
      rw [this]
      exact ih
    | some q =>
      obtain ⟨b, h1, h2⟩ := mj_al_get hL hk
      rw [h1]
      exact ⟨h2, ih⟩
variable {TT : List Cond} {cl : List vw_C} {X : XT} {mi : MI} {fr lo : Nat} {P : Option Value → mH → Prop} {PX : String → mH → Prop} {kc ks pc : Nat} {L : List (Nat × Value)} {S : List Value} {M : mH}
theorem lx_iconst {n : Int} {v : Int32} (d : decode mi.2.1 pc = .ok (.iconst n, 1)) (hv : Int32.ofInt n = v) (k : LX TT cl X mi fr lo P PX kc ks (pc + 1) L (.int v :: S) M) : LX TT cl X mi fr lo P PX kc ks pc L S M := by
  intro p l e R s m args below meth c Qc XC free D sp A as0 F kq kx as L1 S1 H locs cells slots ls h0 hW hS hl hL hSt hc hs
  exact lv_iconst F.1 F.2.1 d hv (k p l e R s m args below meth c Qc XC free D sp A as0 F kq kx as L1 _ H locs cells slots ls h0 hW hS hl hL ⟨rfl, hSt⟩ hc hs)
theorem lx_bipush {n : Int} {v : Int32} (d : decode mi.2.1 pc = .ok (.bipush n, 2)) (hv : (Int8.ofInt n).toInt32 = v) (k : LX TT cl X mi fr lo P PX kc ks (pc + 2) L (.int v :: S) M) : LX TT cl X mi fr lo P PX kc ks pc L S M := by
  intro p l e R s m args below meth c Qc XC free D sp A as0 F kq kx as L1 S1 H locs cells slots ls h0 hW hS hl hL hSt hc hs
  exact lv_bipush F.1 F.2.1 d hv (k p l e R s m args below meth c Qc XC free D sp A as0 F kq kx as L1 _ H locs cells slots ls h0 hW hS hl hL ⟨rfl, hSt⟩ hc hs)
theorem lx_sipush {n : Int} {v : Int32} (d : decode mi.2.1 pc = .ok (.sipush n, 3)) (hv : (Int16.ofInt n).toInt32 = v) (k : LX TT cl X mi fr lo P PX kc ks (pc + 3) L (.int v :: S) M) : LX TT cl X mi fr lo P PX kc ks pc L S M := by
  intro p l e R s m args below meth c Qc XC free D sp A as0 F kq kx as L1 S1 H locs cells slots ls h0 hW hS hl hL hSt hc hs
  exact lv_sipush F.1 F.2.1 d hv (k p l e R s m args below meth c Qc XC free D sp A as0 F kq kx as L1 _ H locs cells slots ls h0 hW hS hl hL ⟨rfl, hSt⟩ hc hs)
theorem lx_lconst {n : Fin 2} {v : Int64} (d : decode mi.2.1 pc = .ok (.lconst n, 1)) (hv : Int64.ofNat (n : Nat) = v) (k : LX TT cl X mi fr lo P PX kc ks (pc + 1) L (.long v :: S) M) : LX TT cl X mi fr lo P PX kc ks pc L S M := by
  intro p l e R s m args below meth c Qc XC free D sp A as0 F kq kx as L1 S1 H locs cells slots ls h0 hW hS hl hL hSt hc hs
  exact lv_lconst F.1 F.2.1 d hv (k p l e R s m args below meth c Qc XC free D sp A as0 F kq kx as L1 _ H locs cells slots ls h0 hW hS hl hL ⟨rfl, hSt⟩ hc hs)
theorem lx_null  (d : decode mi.2.1 pc = .ok (.aconst_null, 1)) (k : LX TT cl X mi fr lo P PX kc ks (pc + 1) L (.null :: S) M) : LX TT cl X mi fr lo P PX kc ks pc L S M := by
  intro p l e R s m args below meth c Qc XC free D sp A as0 F kq kx as L1 S1 H locs cells slots ls h0 hW hS hl hL hSt hc hs
  exact lv_null F.1 F.2.1 d (k p l e R s m args below meth c Qc XC free D sp A as0 F kq kx as L1 _ H locs cells slots ls h0 hW hS hl hL ⟨rfl, hSt⟩ hc hs)
theorem lx_fconst0  (d : decode mi.2.1 pc = .ok (.fconst 0, 1)) (k : LX TT cl X mi fr lo P PX kc ks (pc + 1) L (.float 0 :: S) M) : LX TT cl X mi fr lo P PX kc ks pc L S M := by
  intro p l e R s m args below meth c Qc XC free D sp A as0 F kq kx as L1 S1 H locs cells slots ls h0 hW hS hl hL hSt hc hs
  exact lv_fconst0 F.1 F.2.1 d (k p l e R s m args below meth c Qc XC free D sp A as0 F kq kx as L1 _ H locs cells slots ls h0 hW hS hl hL ⟨rfl, hSt⟩ hc hs)
theorem lx_dconst0  (d : decode mi.2.1 pc = .ok (.dconst 0, 1)) (k : LX TT cl X mi fr lo P PX kc ks (pc + 1) L (.double 0 :: S) M) : LX TT cl X mi fr lo P PX kc ks pc L S M := by
  intro p l e R s m args below meth c Qc XC free D sp A as0 F kq kx as L1 S1 H locs cells slots ls h0 hW hS hl hL hSt hc hs
  exact lv_dconst0 F.1 F.2.1 d (k p l e R s m args below meth c Qc XC free D sp A as0 F kq kx as L1 _ H locs cells slots ls h0 hW hS hl hL ⟨rfl, hSt⟩ hc hs)
theorem lx_iload_n {n : Fin 4} {i : Nat} {x : Int32} (d : decode mi.2.1 pc = .ok (.iload_n n, 1)) (hi : (n : Nat) = i) (hg : mj_get L i = some (.int x)) (k : LX TT cl X mi fr lo P PX kc ks (pc + 1) L (.int x :: S) M) : LX TT cl X mi fr lo P PX kc ks pc L S M := by
  intro p l e R s m args below meth c Qc XC free D sp A as0 F kq kx as L1 S1 H locs cells slots ls h0 hW hS hl hL hSt hc hs
  exact lv_iload_n F.1 F.2.1 d hi (mj_ld hl hL hg rfl) (k p l e R s m args below meth c Qc XC free D sp A as0 F kq kx as L1 _ H locs cells slots ls h0 hW hS hl hL ⟨rfl, hSt⟩ hc hs)
theorem lx_iload {i : Nat} {x : Int32} (d : decode mi.2.1 pc = .ok (.iload i, 2)) (hg : mj_get L i = some (.int x)) (k : LX TT cl X mi fr lo P PX kc ks (pc + 2) L (.int x :: S) M) : LX TT cl X mi fr lo P PX kc ks pc L S M := by
  intro p l e R s m args below meth c Qc XC free D sp A as0 F kq kx as L1 S1 H locs cells slots ls h0 hW hS hl hL hSt hc hs
  exact lv_iload F.1 F.2.1 d (mj_ld hl hL hg rfl) (k p l e R s m args below meth c Qc XC free D sp A as0 F kq kx as L1 _ H locs cells slots ls h0 hW hS hl hL ⟨rfl, hSt⟩ hc hs)
theorem lx_lload_n {n : Fin 4} {i : Nat} {x : Int64} (d : decode mi.2.1 pc = .ok (.lload_n n, 1)) (hi : (n : Nat) = i) (hg : mj_get L i = some (.long x)) (k : LX TT cl X mi fr lo P PX kc ks (pc + 1) L (.long x :: S) M) : LX TT cl X mi fr lo P PX kc ks pc L S M := by
  intro p l e R s m args below meth c Qc XC free D sp A as0 F kq kx as L1 S1 H locs cells slots ls h0 hW hS hl hL hSt hc hs
  exact lv_lload_n F.1 F.2.1 d hi (mj_ld hl hL hg rfl) (k p l e R s m args below meth c Qc XC free D sp A as0 F kq kx as L1 _ H locs cells slots ls h0 hW hS hl hL ⟨rfl, hSt⟩ hc hs)
theorem lx_lload {i : Nat} {x : Int64} (d : decode mi.2.1 pc = .ok (.lload i, 2)) (hg : mj_get L i = some (.long x)) (k : LX TT cl X mi fr lo P PX kc ks (pc + 2) L (.long x :: S) M) : LX TT cl X mi fr lo P PX kc ks pc L S M := by
  intro p l e R s m args below meth c Qc XC free D sp A as0 F kq kx as L1 S1 H locs cells slots ls h0 hW hS hl hL hSt hc hs
  exact lv_lload F.1 F.2.1 d (mj_ld hl hL hg rfl) (k p l e R s m args below meth c Qc XC free D sp A as0 F kq kx as L1 _ H locs cells slots ls h0 hW hS hl hL ⟨rfl, hSt⟩ hc hs)
theorem lx_fload_n {n : Fin 4} {i : Nat} {x : UInt32} (d : decode mi.2.1 pc = .ok (.fload_n n, 1)) (hi : (n : Nat) = i) (hg : mj_get L i = some (.float x)) (k : LX TT cl X mi fr lo P PX kc ks (pc + 1) L (.float x :: S) M) : LX TT cl X mi fr lo P PX kc ks pc L S M := by
  intro p l e R s m args below meth c Qc XC free D sp A as0 F kq kx as L1 S1 H locs cells slots ls h0 hW hS hl hL hSt hc hs
  exact lv_fload_n F.1 F.2.1 d hi (mj_ld hl hL hg rfl) (k p l e R s m args below meth c Qc XC free D sp A as0 F kq kx as L1 _ H locs cells slots ls h0 hW hS hl hL ⟨rfl, hSt⟩ hc hs)
theorem lx_fload {i : Nat} {x : UInt32} (d : decode mi.2.1 pc = .ok (.fload i, 2)) (hg : mj_get L i = some (.float x)) (k : LX TT cl X mi fr lo P PX kc ks (pc + 2) L (.float x :: S) M) : LX TT cl X mi fr lo P PX kc ks pc L S M := by
  intro p l e R s m args below meth c Qc XC free D sp A as0 F kq kx as L1 S1 H locs cells slots ls h0 hW hS hl hL hSt hc hs
  exact lv_fload F.1 F.2.1 d (mj_ld hl hL hg rfl) (k p l e R s m args below meth c Qc XC free D sp A as0 F kq kx as L1 _ H locs cells slots ls h0 hW hS hl hL ⟨rfl, hSt⟩ hc hs)
theorem lx_dload_n {n : Fin 4} {i : Nat} {x : UInt64} (d : decode mi.2.1 pc = .ok (.dload_n n, 1)) (hi : (n : Nat) = i) (hg : mj_get L i = some (.double x)) (k : LX TT cl X mi fr lo P PX kc ks (pc + 1) L (.double x :: S) M) : LX TT cl X mi fr lo P PX kc ks pc L S M := by
  intro p l e R s m args below meth c Qc XC free D sp A as0 F kq kx as L1 S1 H locs cells slots ls h0 hW hS hl hL hSt hc hs
  exact lv_dload_n F.1 F.2.1 d hi (mj_ld hl hL hg rfl) (k p l e R s m args below meth c Qc XC free D sp A as0 F kq kx as L1 _ H locs cells slots ls h0 hW hS hl hL ⟨rfl, hSt⟩ hc hs)
theorem lx_dload {i : Nat} {x : UInt64} (d : decode mi.2.1 pc = .ok (.dload i, 2)) (hg : mj_get L i = some (.double x)) (k : LX TT cl X mi fr lo P PX kc ks (pc + 2) L (.double x :: S) M) : LX TT cl X mi fr lo P PX kc ks pc L S M := by
  intro p l e R s m args below meth c Qc XC free D sp A as0 F kq kx as L1 S1 H locs cells slots ls h0 hW hS hl hL hSt hc hs
  exact lv_dload F.1 F.2.1 d (mj_ld hl hL hg rfl) (k p l e R s m args below meth c Qc XC free D sp A as0 F kq kx as L1 _ H locs cells slots ls h0 hW hS hl hL ⟨rfl, hSt⟩ hc hs)
theorem lx_aload_n {n : Fin 4} {i : Nat} {v : Value} (d : decode mi.2.1 pc = .ok (.aload_n n, 1)) (hi : (n : Nat) = i) (hg : mj_get L i = some v) (hv : mj_isr v = true) (k : LX TT cl X mi fr lo P PX kc ks (pc + 1) L (v :: S) M) : LX TT cl X mi fr lo P PX kc ks pc L S M := by
  intro p l e R s m args below meth c Qc XC free D sp A as0 F kq kx as L1 S1 H locs cells slots ls h0 hW hS hl hL hSt hc hs
  obtain ⟨w, hw, hr⟩ := mj_ldr hl hL hg
  rcases mj_isr_spec hv hr with ⟨a, rfl⟩ | rfl
  · exact lv_aload_n F.1 F.2.1 d hi hw (k p l e R s m args below meth c Qc XC free D sp A as0 F kq kx as L1 _ H locs cells slots ls h0 hW hS hl hL ⟨hr, hSt⟩ hc hs)
  · exact lv_aload_nN F.1 F.2.1 d hi hw (k p l e R s m args below meth c Qc XC free D sp A as0 F kq kx as L1 _ H locs cells slots ls h0 hW hS hl hL ⟨hr, hSt⟩ hc hs)
theorem lx_aload {i : Nat} {v : Value} (d : decode mi.2.1 pc = .ok (.aload i, 2)) (hg : mj_get L i = some v) (hv : mj_isr v = true) (k : LX TT cl X mi fr lo P PX kc ks (pc + 2) L (v :: S) M) : LX TT cl X mi fr lo P PX kc ks pc L S M := by
  intro p l e R s m args below meth c Qc XC free D sp A as0 F kq kx as L1 S1 H locs cells slots ls h0 hW hS hl hL hSt hc hs
  obtain ⟨w, hw, hr⟩ := mj_ldr hl hL hg
  rcases mj_isr_spec hv hr with ⟨a, rfl⟩ | rfl
  · exact lv_aload F.1 F.2.1 d hw (k p l e R s m args below meth c Qc XC free D sp A as0 F kq kx as L1 _ H locs cells slots ls h0 hW hS hl hL ⟨hr, hSt⟩ hc hs)
  · exact lv_aloadN F.1 F.2.1 d hw (k p l e R s m args below meth c Qc XC free D sp A as0 F kq kx as L1 _ H locs cells slots ls h0 hW hS hl hL ⟨hr, hSt⟩ hc hs)
theorem lx_istore_n {n : Fin 4} {i : Nat} {x : Int32} {L2 : List (Nat × Value)} (d : decode mi.2.1 pc = .ok (.istore_n n, 1)) (hi : (n : Nat) = i) (hn : i < mi.2.2.1) (hp : mj_put1 i (.int x) L = L2) (k : LX TT cl X mi fr lo P PX kc ks (pc + 1) L2 S M) : LX TT cl X mi fr lo P PX kc ks pc L (.int x :: S) M := by
  intro p l e R s m args below meth c Qc XC free D sp A as0 F kq kx as L1 S1 H locs cells slots ls h0 hW hS hl hL hSt hc hs
  have h9 := mj_al_cons hSt
  clear hSt
  obtain ⟨_, S1, rfl, rfl, hSt⟩ := h9
  exact lv_istore_n F.1 F.2.1 d hi hl hn rfl (fun ls2 hl2 => (k p l e R s m args below meth c Qc XC free D sp A as0 F kq kx as _ _ H locs cells slots ls2 h0 hW hS hl2 (by subst hp; exact mj_put1_al (mj_pl_rf rfl) hL) hSt hc hs))
theorem lx_istore {i : Nat} {x : Int32} {L2 : List (Nat × Value)} (d : decode mi.2.1 pc = .ok (.istore i, 2)) (hn : i < mi.2.2.1) (hp : mj_put1 i (.int x) L = L2) (k : LX TT cl X mi fr lo P PX kc ks (pc + 2) L2 S M) : LX TT cl X mi fr lo P PX kc ks pc L (.int x :: S) M := by
  intro p l e R s m args below meth c Qc XC free D sp A as0 F kq kx as L1 S1 H locs cells slots ls h0 hW hS hl hL hSt hc hs
  have h9 := mj_al_cons hSt
  clear hSt
  obtain ⟨_, S1, rfl, rfl, hSt⟩ := h9
  exact lv_istore F.1 F.2.1 d hl hn rfl (fun ls2 hl2 => (k p l e R s m args below meth c Qc XC free D sp A as0 F kq kx as _ _ H locs cells slots ls2 h0 hW hS hl2 (by subst hp; exact mj_put1_al (mj_pl_rf rfl) hL) hSt hc hs))
theorem lx_fstore_n {n : Fin 4} {i : Nat} {x : UInt32} {L2 : List (Nat × Value)} (d : decode mi.2.1 pc = .ok (.fstore_n n, 1)) (hi : (n : Nat) = i) (hn : i < mi.2.2.1) (hp : mj_put1 i (.float x) L = L2) (k : LX TT cl X mi fr lo P PX kc ks (pc + 1) L2 S M) : LX TT cl X mi fr lo P PX kc ks pc L (.float x :: S) M := by
  intro p l e R s m args below meth c Qc XC free D sp A as0 F kq kx as L1 S1 H locs cells slots ls h0 hW hS hl hL hSt hc hs
  have h9 := mj_al_cons hSt
  clear hSt
  obtain ⟨_, S1, rfl, rfl, hSt⟩ := h9
  exact lv_fstore_n F.1 F.2.1 d hi hl hn rfl (fun ls2 hl2 => (k p l e R s m args below meth c Qc XC free D sp A as0 F kq kx as _ _ H locs cells slots ls2 h0 hW hS hl2 (by subst hp; exact mj_put1_al (mj_pl_rf rfl) hL) hSt hc hs))
theorem lx_fstore {i : Nat} {x : UInt32} {L2 : List (Nat × Value)} (d : decode mi.2.1 pc = .ok (.fstore i, 2)) (hn : i < mi.2.2.1) (hp : mj_put1 i (.float x) L = L2) (k : LX TT cl X mi fr lo P PX kc ks (pc + 2) L2 S M) : LX TT cl X mi fr lo P PX kc ks pc L (.float x :: S) M := by
  intro p l e R s m args below meth c Qc XC free D sp A as0 F kq kx as L1 S1 H locs cells slots ls h0 hW hS hl hL hSt hc hs
  have h9 := mj_al_cons hSt
  clear hSt
  obtain ⟨_, S1, rfl, rfl, hSt⟩ := h9
  exact lv_fstore F.1 F.2.1 d hl hn rfl (fun ls2 hl2 => (k p l e R s m args below meth c Qc XC free D sp A as0 F kq kx as _ _ H locs cells slots ls2 h0 hW hS hl2 (by subst hp; exact mj_put1_al (mj_pl_rf rfl) hL) hSt hc hs))
theorem lx_lstore_n {n : Fin 4} {i : Nat} {x : Int64} {L2 : List (Nat × Value)} (d : decode mi.2.1 pc = .ok (.lstore_n n, 1)) (hi : (n : Nat) = i) (hn : i + 1 < mi.2.2.1) (hp : mj_put2 i (.long x) L = L2) (k : LX TT cl X mi fr lo P PX kc ks (pc + 1) L2 S M) : LX TT cl X mi fr lo P PX kc ks pc L (.long x :: S) M := by
  intro p l e R s m args below meth c Qc XC free D sp A as0 F kq kx as L1 S1 H locs cells slots ls h0 hW hS hl hL hSt hc hs
  have h9 := mj_al_cons hSt
  clear hSt
  obtain ⟨_, S1, rfl, rfl, hSt⟩ := h9
  exact lv_lstore_n F.1 F.2.1 d hi hl hn rfl (fun ls2 hl2 => (k p l e R s m args below meth c Qc XC free D sp A as0 F kq kx as _ _ H locs cells slots ls2 h0 hW hS hl2 (by subst hp; exact mj_put2_al (mj_pl_rf rfl) hL) hSt hc hs))
theorem lx_lstore {i : Nat} {x : Int64} {L2 : List (Nat × Value)} (d : decode mi.2.1 pc = .ok (.lstore i, 2)) (hn : i + 1 < mi.2.2.1) (hp : mj_put2 i (.long x) L = L2) (k : LX TT cl X mi fr lo P PX kc ks (pc + 2) L2 S M) : LX TT cl X mi fr lo P PX kc ks pc L (.long x :: S) M := by
  intro p l e R s m args below meth c Qc XC free D sp A as0 F kq kx as L1 S1 H locs cells slots ls h0 hW hS hl hL hSt hc hs
  have h9 := mj_al_cons hSt
  clear hSt
  obtain ⟨_, S1, rfl, rfl, hSt⟩ := h9
  exact lv_lstore F.1 F.2.1 d hl hn rfl (fun ls2 hl2 => (k p l e R s m args below meth c Qc XC free D sp A as0 F kq kx as _ _ H locs cells slots ls2 h0 hW hS hl2 (by subst hp; exact mj_put2_al (mj_pl_rf rfl) hL) hSt hc hs))
theorem lx_dstore_n {n : Fin 4} {i : Nat} {x : UInt64} {L2 : List (Nat × Value)} (d : decode mi.2.1 pc = .ok (.dstore_n n, 1)) (hi : (n : Nat) = i) (hn : i + 1 < mi.2.2.1) (hp : mj_put2 i (.double x) L = L2) (k : LX TT cl X mi fr lo P PX kc ks (pc + 1) L2 S M) : LX TT cl X mi fr lo P PX kc ks pc L (.double x :: S) M := by
  intro p l e R s m args below meth c Qc XC free D sp A as0 F kq kx as L1 S1 H locs cells slots ls h0 hW hS hl hL hSt hc hs
  have h9 := mj_al_cons hSt
  clear hSt
  obtain ⟨_, S1, rfl, rfl, hSt⟩ := h9
  exact lv_dstore_n F.1 F.2.1 d hi hl hn rfl (fun ls2 hl2 => (k p l e R s m args below meth c Qc XC free D sp A as0 F kq kx as _ _ H locs cells slots ls2 h0 hW hS hl2 (by subst hp; exact mj_put2_al (mj_pl_rf rfl) hL) hSt hc hs))
theorem lx_dstore {i : Nat} {x : UInt64} {L2 : List (Nat × Value)} (d : decode mi.2.1 pc = .ok (.dstore i, 2)) (hn : i + 1 < mi.2.2.1) (hp : mj_put2 i (.double x) L = L2) (k : LX TT cl X mi fr lo P PX kc ks (pc + 2) L2 S M) : LX TT cl X mi fr lo P PX kc ks pc L (.double x :: S) M := by
  intro p l e R s m args below meth c Qc XC free D sp A as0 F kq kx as L1 S1 H locs cells slots ls h0 hW hS hl hL hSt hc hs
  have h9 := mj_al_cons hSt
  clear hSt
  obtain ⟨_, S1, rfl, rfl, hSt⟩ := h9
  exact lv_dstore F.1 F.2.1 d hl hn rfl (fun ls2 hl2 => (k p l e R s m args below meth c Qc XC free D sp A as0 F kq kx as _ _ H locs cells slots ls2 h0 hW hS hl2 (by subst hp; exact mj_put2_al (mj_pl_rf rfl) hL) hSt hc hs))
theorem lx_astore_n {n : Fin 4} {i : Nat} {v : Value} {L2 : List (Nat × Value)} (d : decode mi.2.1 pc = .ok (.astore_n n, 1)) (hi : (n : Nat) = i) (hn : i < mi.2.2.1) (hv : mj_isr v = true) (hp : mj_put1 i v L = L2) (k : LX TT cl X mi fr lo P PX kc ks (pc + 1) L2 S M) : LX TT cl X mi fr lo P PX kc ks pc L (v :: S) M := by
  intro p l e R s m args below meth c Qc XC free D sp A as0 F kq kx as L1 S1 H locs cells slots ls h0 hW hS hl hL hSt hc hs
  have h9 := mj_al_cons hSt
  clear hSt
  obtain ⟨w, S1, rfl, wr, hSt⟩ := h9
  have hwr := wr
  rcases mj_isr_spec hv wr with ⟨a, rfl⟩ | rfl
  · exact lv_astore_n F.1 F.2.1 d hi hl hn rfl (fun ls2 hl2 => (k p l e R s m args below meth c Qc XC free D sp A as0 F kq kx as _ _ H locs cells slots ls2 h0 hW hS hl2 (by subst hp; exact mj_put1_al hwr hL) hSt hc hs))
  · exact lv_astore_nN F.1 F.2.1 d hi hl hn rfl (fun ls2 hl2 => (k p l e R s m args below meth c Qc XC free D sp A as0 F kq kx as _ _ H locs cells slots ls2 h0 hW hS hl2 (by subst hp; exact mj_put1_al hwr hL) hSt hc hs))
theorem lx_astore {i : Nat} {v : Value} {L2 : List (Nat × Value)} (d : decode mi.2.1 pc = .ok (.astore i, 2)) (hn : i < mi.2.2.1) (hv : mj_isr v = true) (hp : mj_put1 i v L = L2) (k : LX TT cl X mi fr lo P PX kc ks (pc + 2) L2 S M) : LX TT cl X mi fr lo P PX kc ks pc L (v :: S) M := by
  intro p l e R s m args below meth c Qc XC free D sp A as0 F kq kx as L1 S1 H locs cells slots ls h0 hW hS hl hL hSt hc hs
  have h9 := mj_al_cons hSt
  clear hSt
  obtain ⟨w, S1, rfl, wr, hSt⟩ := h9
  have hwr := wr
  rcases mj_isr_spec hv wr with ⟨a, rfl⟩ | rfl
  · exact lv_astore F.1 F.2.1 d hl hn rfl (fun ls2 hl2 => (k p l e R s m args below meth c Qc XC free D sp A as0 F kq kx as _ _ H locs cells slots ls2 h0 hW hS hl2 (by subst hp; exact mj_put1_al hwr hL) hSt hc hs))
  · exact lv_astoreN F.1 F.2.1 d hl hn rfl (fun ls2 hl2 => (k p l e R s m args below meth c Qc XC free D sp A as0 F kq kx as _ _ H locs cells slots ls2 h0 hW hS hl2 (by subst hp; exact mj_put1_al hwr hL) hSt hc hs))
theorem lx_iinc {i : Nat} {n : Int} {x v : Int32} {L2 : List (Nat × Value)} (d : decode mi.2.1 pc = .ok (.iinc i n, 3)) (hg : mj_get L i = some (.int x)) (hv : x + Int32.ofInt n = v) (hn : i < mi.2.2.1) (hp : mj_put1 i (.int v) L = L2) (k : LX TT cl X mi fr lo P PX kc ks (pc + 3) L2 S M) : LX TT cl X mi fr lo P PX kc ks pc L S M := by
  intro p l e R s m args below meth c Qc XC free D sp A as0 F kq kx as L1 S1 H locs cells slots ls h0 hW hS hl hL hSt hc hs
  obtain ⟨j, hj⟩ := mj_ldk hL hg
  obtain ⟨w, hw, hr⟩ := hj
  rw [show w = Value.int x from hr] at hw
  exact lv_iinc F.1 F.2.1 d hl hw hv hn rfl (fun ls2 hl2 => (k p l e R s m args below meth c Qc XC free D sp A as0 F kq kx as _ _ H locs cells slots ls2 h0 hW hS hl2 (by subst hp; exact mj_put1_al (mj_pl_rf rfl) hL) hSt hc hs))
theorem lx_iadd {x y : Int32} (d : decode mi.2.1 pc = .ok (.iadd, 1)) (k : LX TT cl X mi fr lo P PX kc ks (pc + 1) L (.int (x + y) :: S) M) : LX TT cl X mi fr lo P PX kc ks pc L (.int y :: .int x :: S) M := by
  intro p l e R s m args below meth c Qc XC free D sp A as0 F kq kx as L1 S1 H locs cells slots ls h0 hW hS hl hL hSt hc hs
  have h9 := mj_al_cons hSt
  clear hSt
  obtain ⟨_, S1, rfl, rfl, hSt⟩ := h9
  have h9 := mj_al_cons hSt
  clear hSt
  obtain ⟨_, S1, rfl, rfl, hSt⟩ := h9
  exact lv_iadd F.1 F.2.1 d (k p l e R s m args below meth c Qc XC free D sp A as0 F kq kx as L1 _ H locs cells slots ls h0 hW hS hl hL ⟨rfl, hSt⟩ hc hs)
theorem lx_isub {x y : Int32} (d : decode mi.2.1 pc = .ok (.isub, 1)) (k : LX TT cl X mi fr lo P PX kc ks (pc + 1) L (.int (x - y) :: S) M) : LX TT cl X mi fr lo P PX kc ks pc L (.int y :: .int x :: S) M := by
  intro p l e R s m args below meth c Qc XC free D sp A as0 F kq kx as L1 S1 H locs cells slots ls h0 hW hS hl hL hSt hc hs
  have h9 := mj_al_cons hSt
  clear hSt
  obtain ⟨_, S1, rfl, rfl, hSt⟩ := h9
  have h9 := mj_al_cons hSt
  clear hSt
  obtain ⟨_, S1, rfl, rfl, hSt⟩ := h9
  exact lv_isub F.1 F.2.1 d (k p l e R s m args below meth c Qc XC free D sp A as0 F kq kx as L1 _ H locs cells slots ls h0 hW hS hl hL ⟨rfl, hSt⟩ hc hs)
theorem lx_imul {x y : Int32} (d : decode mi.2.1 pc = .ok (.imul, 1)) (k : LX TT cl X mi fr lo P PX kc ks (pc + 1) L (.int (x * y) :: S) M) : LX TT cl X mi fr lo P PX kc ks pc L (.int y :: .int x :: S) M := by
  intro p l e R s m args below meth c Qc XC free D sp A as0 F kq kx as L1 S1 H locs cells slots ls h0 hW hS hl hL hSt hc hs
  have h9 := mj_al_cons hSt
  clear hSt
  obtain ⟨_, S1, rfl, rfl, hSt⟩ := h9
  have h9 := mj_al_cons hSt
  clear hSt
  obtain ⟨_, S1, rfl, rfl, hSt⟩ := h9
  exact lv_imul F.1 F.2.1 d (k p l e R s m args below meth c Qc XC free D sp A as0 F kq kx as L1 _ H locs cells slots ls h0 hW hS hl hL ⟨rfl, hSt⟩ hc hs)
theorem lx_iand {x y : Int32} (d : decode mi.2.1 pc = .ok (.iand, 1)) (k : LX TT cl X mi fr lo P PX kc ks (pc + 1) L (.int (x &&& y) :: S) M) : LX TT cl X mi fr lo P PX kc ks pc L (.int y :: .int x :: S) M := by
  intro p l e R s m args below meth c Qc XC free D sp A as0 F kq kx as L1 S1 H locs cells slots ls h0 hW hS hl hL hSt hc hs
  have h9 := mj_al_cons hSt
  clear hSt
  obtain ⟨_, S1, rfl, rfl, hSt⟩ := h9
  have h9 := mj_al_cons hSt
  clear hSt
  obtain ⟨_, S1, rfl, rfl, hSt⟩ := h9
  exact lv_iand F.1 F.2.1 d (k p l e R s m args below meth c Qc XC free D sp A as0 F kq kx as L1 _ H locs cells slots ls h0 hW hS hl hL ⟨rfl, hSt⟩ hc hs)
theorem lx_ior {x y : Int32} (d : decode mi.2.1 pc = .ok (.ior, 1)) (k : LX TT cl X mi fr lo P PX kc ks (pc + 1) L (.int (x ||| y) :: S) M) : LX TT cl X mi fr lo P PX kc ks pc L (.int y :: .int x :: S) M := by
  intro p l e R s m args below meth c Qc XC free D sp A as0 F kq kx as L1 S1 H locs cells slots ls h0 hW hS hl hL hSt hc hs
  have h9 := mj_al_cons hSt
  clear hSt
  obtain ⟨_, S1, rfl, rfl, hSt⟩ := h9
  have h9 := mj_al_cons hSt
  clear hSt
  obtain ⟨_, S1, rfl, rfl, hSt⟩ := h9
  exact lv_ior F.1 F.2.1 d (k p l e R s m args below meth c Qc XC free D sp A as0 F kq kx as L1 _ H locs cells slots ls h0 hW hS hl hL ⟨rfl, hSt⟩ hc hs)
theorem lx_ixor {x y : Int32} (d : decode mi.2.1 pc = .ok (.ixor, 1)) (k : LX TT cl X mi fr lo P PX kc ks (pc + 1) L (.int (x ^^^ y) :: S) M) : LX TT cl X mi fr lo P PX kc ks pc L (.int y :: .int x :: S) M := by
  intro p l e R s m args below meth c Qc XC free D sp A as0 F kq kx as L1 S1 H locs cells slots ls h0 hW hS hl hL hSt hc hs
  have h9 := mj_al_cons hSt
  clear hSt
  obtain ⟨_, S1, rfl, rfl, hSt⟩ := h9
  have h9 := mj_al_cons hSt
  clear hSt
  obtain ⟨_, S1, rfl, rfl, hSt⟩ := h9
  exact lv_ixor F.1 F.2.1 d (k p l e R s m args below meth c Qc XC free D sp A as0 F kq kx as L1 _ H locs cells slots ls h0 hW hS hl hL ⟨rfl, hSt⟩ hc hs)
theorem lx_ishl {x y : Int32} (d : decode mi.2.1 pc = .ok (.ishl, 1)) (k : LX TT cl X mi fr lo P PX kc ks (pc + 1) L (.int (x <<< (y &&& 31)) :: S) M) : LX TT cl X mi fr lo P PX kc ks pc L (.int y :: .int x :: S) M := by
  intro p l e R s m args below meth c Qc XC free D sp A as0 F kq kx as L1 S1 H locs cells slots ls h0 hW hS hl hL hSt hc hs
  have h9 := mj_al_cons hSt
  clear hSt
  obtain ⟨_, S1, rfl, rfl, hSt⟩ := h9
  have h9 := mj_al_cons hSt
  clear hSt
  obtain ⟨_, S1, rfl, rfl, hSt⟩ := h9
  exact lv_ishl F.1 F.2.1 d (k p l e R s m args below meth c Qc XC free D sp A as0 F kq kx as L1 _ H locs cells slots ls h0 hW hS hl hL ⟨rfl, hSt⟩ hc hs)
theorem lx_ishr {x y : Int32} (d : decode mi.2.1 pc = .ok (.ishr, 1)) (k : LX TT cl X mi fr lo P PX kc ks (pc + 1) L (.int (x >>> (y &&& 31)) :: S) M) : LX TT cl X mi fr lo P PX kc ks pc L (.int y :: .int x :: S) M := by
  intro p l e R s m args below meth c Qc XC free D sp A as0 F kq kx as L1 S1 H locs cells slots ls h0 hW hS hl hL hSt hc hs
  have h9 := mj_al_cons hSt
  clear hSt
  obtain ⟨_, S1, rfl, rfl, hSt⟩ := h9
  have h9 := mj_al_cons hSt
  clear hSt
  obtain ⟨_, S1, rfl, rfl, hSt⟩ := h9
  exact lv_ishr F.1 F.2.1 d (k p l e R s m args below meth c Qc XC free D sp A as0 F kq kx as L1 _ H locs cells slots ls h0 hW hS hl hL ⟨rfl, hSt⟩ hc hs)
theorem lx_ladd {x y : Int64} (d : decode mi.2.1 pc = .ok (.ladd, 1)) (k : LX TT cl X mi fr lo P PX kc ks (pc + 1) L (.long (x + y) :: S) M) : LX TT cl X mi fr lo P PX kc ks pc L (.long y :: .long x :: S) M := by
  intro p l e R s m args below meth c Qc XC free D sp A as0 F kq kx as L1 S1 H locs cells slots ls h0 hW hS hl hL hSt hc hs
  have h9 := mj_al_cons hSt
  clear hSt
  obtain ⟨_, S1, rfl, rfl, hSt⟩ := h9
  have h9 := mj_al_cons hSt
  clear hSt
  obtain ⟨_, S1, rfl, rfl, hSt⟩ := h9
  exact lv_ladd F.1 F.2.1 d (k p l e R s m args below meth c Qc XC free D sp A as0 F kq kx as L1 _ H locs cells slots ls h0 hW hS hl hL ⟨rfl, hSt⟩ hc hs)
theorem lx_lsub {x y : Int64} (d : decode mi.2.1 pc = .ok (.lsub, 1)) (k : LX TT cl X mi fr lo P PX kc ks (pc + 1) L (.long (x - y) :: S) M) : LX TT cl X mi fr lo P PX kc ks pc L (.long y :: .long x :: S) M := by
  intro p l e R s m args below meth c Qc XC free D sp A as0 F kq kx as L1 S1 H locs cells slots ls h0 hW hS hl hL hSt hc hs
  have h9 := mj_al_cons hSt
  clear hSt
  obtain ⟨_, S1, rfl, rfl, hSt⟩ := h9
  have h9 := mj_al_cons hSt
  clear hSt
  obtain ⟨_, S1, rfl, rfl, hSt⟩ := h9
  exact lv_lsub F.1 F.2.1 d (k p l e R s m args below meth c Qc XC free D sp A as0 F kq kx as L1 _ H locs cells slots ls h0 hW hS hl hL ⟨rfl, hSt⟩ hc hs)
theorem lx_lmul {x y : Int64} (d : decode mi.2.1 pc = .ok (.lmul, 1)) (k : LX TT cl X mi fr lo P PX kc ks (pc + 1) L (.long (x * y) :: S) M) : LX TT cl X mi fr lo P PX kc ks pc L (.long y :: .long x :: S) M := by
  intro p l e R s m args below meth c Qc XC free D sp A as0 F kq kx as L1 S1 H locs cells slots ls h0 hW hS hl hL hSt hc hs
  have h9 := mj_al_cons hSt
  clear hSt
  obtain ⟨_, S1, rfl, rfl, hSt⟩ := h9
  have h9 := mj_al_cons hSt
  clear hSt
  obtain ⟨_, S1, rfl, rfl, hSt⟩ := h9
  exact lv_lmul F.1 F.2.1 d (k p l e R s m args below meth c Qc XC free D sp A as0 F kq kx as L1 _ H locs cells slots ls h0 hW hS hl hL ⟨rfl, hSt⟩ hc hs)
theorem lx_land {x y : Int64} (d : decode mi.2.1 pc = .ok (.land, 1)) (k : LX TT cl X mi fr lo P PX kc ks (pc + 1) L (.long (x &&& y) :: S) M) : LX TT cl X mi fr lo P PX kc ks pc L (.long y :: .long x :: S) M := by
  intro p l e R s m args below meth c Qc XC free D sp A as0 F kq kx as L1 S1 H locs cells slots ls h0 hW hS hl hL hSt hc hs
  have h9 := mj_al_cons hSt
  clear hSt
  obtain ⟨_, S1, rfl, rfl, hSt⟩ := h9
  have h9 := mj_al_cons hSt
  clear hSt
  obtain ⟨_, S1, rfl, rfl, hSt⟩ := h9
  exact lv_land F.1 F.2.1 d (k p l e R s m args below meth c Qc XC free D sp A as0 F kq kx as L1 _ H locs cells slots ls h0 hW hS hl hL ⟨rfl, hSt⟩ hc hs)
theorem lx_lor {x y : Int64} (d : decode mi.2.1 pc = .ok (.lor, 1)) (k : LX TT cl X mi fr lo P PX kc ks (pc + 1) L (.long (x ||| y) :: S) M) : LX TT cl X mi fr lo P PX kc ks pc L (.long y :: .long x :: S) M := by
  intro p l e R s m args below meth c Qc XC free D sp A as0 F kq kx as L1 S1 H locs cells slots ls h0 hW hS hl hL hSt hc hs
  have h9 := mj_al_cons hSt
  clear hSt
  obtain ⟨_, S1, rfl, rfl, hSt⟩ := h9
  have h9 := mj_al_cons hSt
  clear hSt
  obtain ⟨_, S1, rfl, rfl, hSt⟩ := h9
  exact lv_lor F.1 F.2.1 d (k p l e R s m args below meth c Qc XC free D sp A as0 F kq kx as L1 _ H locs cells slots ls h0 hW hS hl hL ⟨rfl, hSt⟩ hc hs)
theorem lx_lxor {x y : Int64} (d : decode mi.2.1 pc = .ok (.lxor, 1)) (k : LX TT cl X mi fr lo P PX kc ks (pc + 1) L (.long (x ^^^ y) :: S) M) : LX TT cl X mi fr lo P PX kc ks pc L (.long y :: .long x :: S) M := by
  intro p l e R s m args below meth c Qc XC free D sp A as0 F kq kx as L1 S1 H locs cells slots ls h0 hW hS hl hL hSt hc hs
  have h9 := mj_al_cons hSt
  clear hSt
  obtain ⟨_, S1, rfl, rfl, hSt⟩ := h9
  have h9 := mj_al_cons hSt
  clear hSt
  obtain ⟨_, S1, rfl, rfl, hSt⟩ := h9
  exact lv_lxor F.1 F.2.1 d (k p l e R s m args below meth c Qc XC free D sp A as0 F kq kx as L1 _ H locs cells slots ls h0 hW hS hl hL ⟨rfl, hSt⟩ hc hs)
theorem lx_idiv {x y : Int32} (d : decode mi.2.1 pc = .ok (.idiv, 1)) (hne : ¬ y = 0) (k : LX TT cl X mi fr lo P PX kc ks (pc + 1) L (.int (x / y) :: S) M) : LX TT cl X mi fr lo P PX kc ks pc L (.int y :: .int x :: S) M := by
  intro p l e R s m args below meth c Qc XC free D sp A as0 F kq kx as L1 S1 H locs cells slots ls h0 hW hS hl hL hSt hc hs
  have h9 := mj_al_cons hSt
  clear hSt
  obtain ⟨_, S1, rfl, rfl, hSt⟩ := h9
  have h9 := mj_al_cons hSt
  clear hSt
  obtain ⟨_, S1, rfl, rfl, hSt⟩ := h9
  exact lv_idiv F.1 F.2.1 d hne (k p l e R s m args below meth c Qc XC free D sp A as0 F kq kx as L1 _ H locs cells slots ls h0 hW hS hl hL ⟨rfl, hSt⟩ hc hs)
theorem lx_irem {x y : Int32} (d : decode mi.2.1 pc = .ok (.irem, 1)) (hne : ¬ y = 0) (k : LX TT cl X mi fr lo P PX kc ks (pc + 1) L (.int (x - x / y * y) :: S) M) : LX TT cl X mi fr lo P PX kc ks pc L (.int y :: .int x :: S) M := by
  intro p l e R s m args below meth c Qc XC free D sp A as0 F kq kx as L1 S1 H locs cells slots ls h0 hW hS hl hL hSt hc hs
  have h9 := mj_al_cons hSt
  clear hSt
  obtain ⟨_, S1, rfl, rfl, hSt⟩ := h9
  have h9 := mj_al_cons hSt
  clear hSt
  obtain ⟨_, S1, rfl, rfl, hSt⟩ := h9
  exact lv_irem F.1 F.2.1 d hne (k p l e R s m args below meth c Qc XC free D sp A as0 F kq kx as L1 _ H locs cells slots ls h0 hW hS hl hL ⟨rfl, hSt⟩ hc hs)
theorem lx_ineg {x : Int32} (d : decode mi.2.1 pc = .ok (.ineg, 1)) (k : LX TT cl X mi fr lo P PX kc ks (pc + 1) L (.int (-x) :: S) M) : LX TT cl X mi fr lo P PX kc ks pc L (.int x :: S) M := by
  intro p l e R s m args below meth c Qc XC free D sp A as0 F kq kx as L1 S1 H locs cells slots ls h0 hW hS hl hL hSt hc hs
  have h9 := mj_al_cons hSt
  clear hSt
  obtain ⟨_, S1, rfl, rfl, hSt⟩ := h9
  exact lv_ineg F.1 F.2.1 d (k p l e R s m args below meth c Qc XC free D sp A as0 F kq kx as L1 _ H locs cells slots ls h0 hW hS hl hL ⟨rfl, hSt⟩ hc hs)
theorem lx_lneg {x : Int64} (d : decode mi.2.1 pc = .ok (.lneg, 1)) (k : LX TT cl X mi fr lo P PX kc ks (pc + 1) L (.long (-x) :: S) M) : LX TT cl X mi fr lo P PX kc ks pc L (.long x :: S) M := by
  intro p l e R s m args below meth c Qc XC free D sp A as0 F kq kx as L1 S1 H locs cells slots ls h0 hW hS hl hL hSt hc hs
  have h9 := mj_al_cons hSt
  clear hSt
  obtain ⟨_, S1, rfl, rfl, hSt⟩ := h9
  exact lv_lneg F.1 F.2.1 d (k p l e R s m args below meth c Qc XC free D sp A as0 F kq kx as L1 _ H locs cells slots ls h0 hW hS hl hL ⟨rfl, hSt⟩ hc hs)
theorem lx_lcmp {x y : Int64} (d : decode mi.2.1 pc = .ok (.lcmp, 1)) (k : LX TT cl X mi fr lo P PX kc ks (pc + 1) L (.int (lg_cmp x y) :: S) M) : LX TT cl X mi fr lo P PX kc ks pc L (.long y :: .long x :: S) M := by
  intro p l e R s m args below meth c Qc XC free D sp A as0 F kq kx as L1 S1 H locs cells slots ls h0 hW hS hl hL hSt hc hs
  have h9 := mj_al_cons hSt
  clear hSt
  obtain ⟨_, S1, rfl, rfl, hSt⟩ := h9
  have h9 := mj_al_cons hSt
  clear hSt
  obtain ⟨_, S1, rfl, rfl, hSt⟩ := h9
  exact W.lcmp F.1 F.2.1 d (k p l e R s m args below meth c Qc XC free D sp A as0 F kq kx as L1 _ H locs cells slots ls h0 hW hS hl hL ⟨rfl, hSt⟩ hc hs)
theorem lx_i2l {x : Int32} (d : decode mi.2.1 pc = .ok (.i2l, 1)) (k : LX TT cl X mi fr lo P PX kc ks (pc + 1) L (.long (x.toInt64) :: S) M) : LX TT cl X mi fr lo P PX kc ks pc L (.int x :: S) M := by
  intro p l e R s m args below meth c Qc XC free D sp A as0 F kq kx as L1 S1 H locs cells slots ls h0 hW hS hl hL hSt hc hs
  have h9 := mj_al_cons hSt
  clear hSt
  obtain ⟨_, S1, rfl, rfl, hSt⟩ := h9
  exact lv_i2l F.1 F.2.1 d rfl (k p l e R s m args below meth c Qc XC free D sp A as0 F kq kx as L1 _ H locs cells slots ls h0 hW hS hl hL ⟨rfl, hSt⟩ hc hs)
theorem lx_l2i {x : Int64} (d : decode mi.2.1 pc = .ok (.l2i, 1)) (k : LX TT cl X mi fr lo P PX kc ks (pc + 1) L (.int (x.toInt32) :: S) M) : LX TT cl X mi fr lo P PX kc ks pc L (.long x :: S) M := by
  intro p l e R s m args below meth c Qc XC free D sp A as0 F kq kx as L1 S1 H locs cells slots ls h0 hW hS hl hL hSt hc hs
  have h9 := mj_al_cons hSt
  clear hSt
  obtain ⟨_, S1, rfl, rfl, hSt⟩ := h9
  exact lv_l2i F.1 F.2.1 d rfl (k p l e R s m args below meth c Qc XC free D sp A as0 F kq kx as L1 _ H locs cells slots ls h0 hW hS hl hL ⟨rfl, hSt⟩ hc hs)
theorem lx_i2b {x : Int32} (d : decode mi.2.1 pc = .ok (.i2b, 1)) (k : LX TT cl X mi fr lo P PX kc ks (pc + 1) L (.int (x.toInt8.toInt32) :: S) M) : LX TT cl X mi fr lo P PX kc ks pc L (.int x :: S) M := by
  intro p l e R s m args below meth c Qc XC free D sp A as0 F kq kx as L1 S1 H locs cells slots ls h0 hW hS hl hL hSt hc hs
  have h9 := mj_al_cons hSt
  clear hSt
  obtain ⟨_, S1, rfl, rfl, hSt⟩ := h9
  exact lv_i2b F.1 F.2.1 d rfl (k p l e R s m args below meth c Qc XC free D sp A as0 F kq kx as L1 _ H locs cells slots ls h0 hW hS hl hL ⟨rfl, hSt⟩ hc hs)
theorem lx_i2c {x : Int32} (d : decode mi.2.1 pc = .ok (.i2c, 1)) (k : LX TT cl X mi fr lo P PX kc ks (pc + 1) L (.int ((x.toUInt32 % 65536).toInt32) :: S) M) : LX TT cl X mi fr lo P PX kc ks pc L (.int x :: S) M := by
  intro p l e R s m args below meth c Qc XC free D sp A as0 F kq kx as L1 S1 H locs cells slots ls h0 hW hS hl hL hSt hc hs
  have h9 := mj_al_cons hSt
  clear hSt
  obtain ⟨_, S1, rfl, rfl, hSt⟩ := h9
  exact lv_i2c F.1 F.2.1 d rfl (k p l e R s m args below meth c Qc XC free D sp A as0 F kq kx as L1 _ H locs cells slots ls h0 hW hS hl hL ⟨rfl, hSt⟩ hc hs)
theorem lx_iushr {x y : Int32} (d : decode mi.2.1 pc = .ok (.iushr, 1)) (k : LX TT cl X mi fr lo P PX kc ks (pc + 1) L (.int ((x.toUInt32 >>> (y.toUInt32 &&& Int32.toUInt32 31)).toInt32) :: S) M) : LX TT cl X mi fr lo P PX kc ks pc L (.int y :: .int x :: S) M := by
  intro p l e R s m args below meth c Qc XC free D sp A as0 F kq kx as L1 S1 H locs cells slots ls h0 hW hS hl hL hSt hc hs
  have h9 := mj_al_cons hSt
  clear hSt
  obtain ⟨_, S1, rfl, rfl, hSt⟩ := h9
  have h9 := mj_al_cons hSt
  clear hSt
  obtain ⟨_, S1, rfl, rfl, hSt⟩ := h9
  exact lv_iushr F.1 F.2.1 d rfl (k p l e R s m args below meth c Qc XC free D sp A as0 F kq kx as L1 _ H locs cells slots ls h0 hW hS hl hL ⟨rfl, hSt⟩ hc hs)
theorem lx_lushr {x : Int64} {y : Int32} (d : decode mi.2.1 pc = .ok (.lushr, 1)) (k : LX TT cl X mi fr lo P PX kc ks (pc + 1) L (.long ((x.toUInt64 >>> (y.toInt64.toUInt64 &&& Int64.toUInt64 63)).toInt64) :: S) M) : LX TT cl X mi fr lo P PX kc ks pc L (.int y :: .long x :: S) M := by
  intro p l e R s m args below meth c Qc XC free D sp A as0 F kq kx as L1 S1 H locs cells slots ls h0 hW hS hl hL hSt hc hs
  have h9 := mj_al_cons hSt
  clear hSt
  obtain ⟨_, S1, rfl, rfl, hSt⟩ := h9
  have h9 := mj_al_cons hSt
  clear hSt
  obtain ⟨_, S1, rfl, rfl, hSt⟩ := h9
  exact lv_lushr F.1 F.2.1 d rfl (k p l e R s m args below meth c Qc XC free D sp A as0 F kq kx as L1 _ H locs cells slots ls h0 hW hS hl hL ⟨rfl, hSt⟩ hc hs)
theorem lx_lshl {x : Int64} {y : Int32} (d : decode mi.2.1 pc = .ok (.lshl, 1)) (k : LX TT cl X mi fr lo P PX kc ks (pc + 1) L (.long (x <<< (y.toInt64 &&& 63)) :: S) M) : LX TT cl X mi fr lo P PX kc ks pc L (.int y :: .long x :: S) M := by
  intro p l e R s m args below meth c Qc XC free D sp A as0 F kq kx as L1 S1 H locs cells slots ls h0 hW hS hl hL hSt hc hs
  have h9 := mj_al_cons hSt
  clear hSt
  obtain ⟨_, S1, rfl, rfl, hSt⟩ := h9
  have h9 := mj_al_cons hSt
  clear hSt
  obtain ⟨_, S1, rfl, rfl, hSt⟩ := h9
  exact lv_lshl F.1 F.2.1 d rfl (k p l e R s m args below meth c Qc XC free D sp A as0 F kq kx as L1 _ H locs cells slots ls h0 hW hS hl hL ⟨rfl, hSt⟩ hc hs)
theorem lx_lshr {x : Int64} {y : Int32} (d : decode mi.2.1 pc = .ok (.lshr, 1)) (k : LX TT cl X mi fr lo P PX kc ks (pc + 1) L (.long (x >>> (y.toInt64 &&& 63)) :: S) M) : LX TT cl X mi fr lo P PX kc ks pc L (.int y :: .long x :: S) M := by
  intro p l e R s m args below meth c Qc XC free D sp A as0 F kq kx as L1 S1 H locs cells slots ls h0 hW hS hl hL hSt hc hs
  have h9 := mj_al_cons hSt
  clear hSt
  obtain ⟨_, S1, rfl, rfl, hSt⟩ := h9
  have h9 := mj_al_cons hSt
  clear hSt
  obtain ⟨_, S1, rfl, rfl, hSt⟩ := h9
  exact lv_lshr F.1 F.2.1 d rfl (k p l e R s m args below meth c Qc XC free D sp A as0 F kq kx as L1 _ H locs cells slots ls h0 hW hS hl hL ⟨rfl, hSt⟩ hc hs)
theorem lx_dup {v : Value} (d : decode mi.2.1 pc = .ok (.dup, 1)) (hv : v.category = 1) (k : LX TT cl X mi fr lo P PX kc ks (pc + 1) L (v :: v :: S) M) : LX TT cl X mi fr lo P PX kc ks pc L (v :: S) M := by
  intro p l e R s m args below meth c Qc XC free D sp A as0 F kq kx as L1 S1 H locs cells slots ls h0 hW hS hl hL hSt hc hs
  have h9 := mj_al_cons hSt
  clear hSt
  obtain ⟨w, S1, rfl, wr, hSt⟩ := h9
  exact lv_dup F.1 F.2.1 d ((mj_vr_cat wr).trans hv) (k p l e R s m args below meth c Qc XC free D sp A as0 F kq kx as L1 _ H locs cells slots ls h0 hW hS hl hL ⟨wr, wr, hSt⟩ hc hs)
theorem lx_pop {v : Value} (d : decode mi.2.1 pc = .ok (.pop, 1)) (hv : v.category = 1) (k : LX TT cl X mi fr lo P PX kc ks (pc + 1) L S M) : LX TT cl X mi fr lo P PX kc ks pc L (v :: S) M := by
  intro p l e R s m args below meth c Qc XC free D sp A as0 F kq kx as L1 S1 H locs cells slots ls h0 hW hS hl hL hSt hc hs
  have h9 := mj_al_cons hSt
  clear hSt
  obtain ⟨w, S1, rfl, wr, hSt⟩ := h9
  exact lv_pop F.1 F.2.1 d ((mj_vr_cat wr).trans hv) (k p l e R s m args below meth c Qc XC free D sp A as0 F kq kx as L1 _ H locs cells slots ls h0 hW hS hl hL hSt hc hs)
theorem lx_dup2 {v u : Value} (d : decode mi.2.1 pc = .ok (.dup2, 1)) (hv : v.category = 1) (hu : u.category = 1) (k : LX TT cl X mi fr lo P PX kc ks (pc + 1) L (v :: u :: v :: u :: S) M) : LX TT cl X mi fr lo P PX kc ks pc L (v :: u :: S) M := by
  intro p l e R s m args below meth c Qc XC free D sp A as0 F kq kx as L1 S1 H locs cells slots ls h0 hW hS hl hL hSt hc hs
  have h9 := mj_al_cons hSt
  clear hSt
  obtain ⟨w, S1, rfl, wr, hSt⟩ := h9
  have h9 := mj_al_cons hSt
  clear hSt
  obtain ⟨z, S1, rfl, zr, hSt⟩ := h9
  exact lv_dup2_11 F.1 F.2.1 d ((mj_vr_cat wr).trans hv) ((mj_vr_cat zr).trans hu) (k p l e R s m args below meth c Qc XC free D sp A as0 F kq kx as L1 _ H locs cells slots ls h0 hW hS hl hL ⟨wr, zr, wr, zr, hSt⟩ hc hs)
theorem lx_dup_x1 {v u : Value} (d : decode mi.2.1 pc = .ok (.dup_x1, 1)) (hv : v.category = 1) (hu : u.category = 1) (k : LX TT cl X mi fr lo P PX kc ks (pc + 1) L (v :: u :: v :: S) M) : LX TT cl X mi fr lo P PX kc ks pc L (v :: u :: S) M := by
  intro p l e R s m args below meth c Qc XC free D sp A as0 F kq kx as L1 S1 H locs cells slots ls h0 hW hS hl hL hSt hc hs
  have h9 := mj_al_cons hSt
  clear hSt
  obtain ⟨w, S1, rfl, wr, hSt⟩ := h9
  have h9 := mj_al_cons hSt
  clear hSt
  obtain ⟨z, S1, rfl, zr, hSt⟩ := h9
  exact lv_dup_x1 F.1 F.2.1 d ((mj_vr_cat wr).trans hv) ((mj_vr_cat zr).trans hu) (k p l e R s m args below meth c Qc XC free D sp A as0 F kq kx as L1 _ H locs cells slots ls h0 hW hS hl hL ⟨wr, zr, wr, hSt⟩ hc hs)
theorem lx_if_eq {x : Int32} {off : Int} {tgt : Nat} (d : decode mi.2.1 pc = .ok (.ifCond .eq off, 3)) (ht : (pc : Int) + off = (tgt : Int)) (kt : x = 0 → LX TT cl X mi fr lo P PX kc ks tgt L S M) (kf : ¬ (x = 0) → LX TT cl X mi fr lo P PX kc ks (pc + 3) L S M) : LX TT cl X mi fr lo P PX kc ks pc L (.int x :: S) M := by
  intro p l e R s m args below meth c Qc XC free D sp A as0 F kq kx as L1 S1 H locs cells slots ls h0 hW hS hl hL hSt hc hs
  have h9 := mj_al_cons hSt
  clear hSt
  obtain ⟨_, S1, rfl, rfl, hSt⟩ := h9
  exact lv_if_eq F.1 F.2.1 d ht (fun q => ((kt q) p l e R s m args below meth c Qc XC free D sp A as0 F kq kx as L1 _ H locs cells slots ls h0 hW hS hl hL hSt hc hs)) (fun q => ((kf q) p l e R s m args below meth c Qc XC free D sp A as0 F kq kx as L1 _ H locs cells slots ls h0 hW hS hl hL hSt hc hs))
theorem lx_if_ne {x : Int32} {off : Int} {tgt : Nat} (d : decode mi.2.1 pc = .ok (.ifCond .ne off, 3)) (ht : (pc : Int) + off = (tgt : Int)) (kt : ¬ x = 0 → LX TT cl X mi fr lo P PX kc ks tgt L S M) (kf : x = 0 → LX TT cl X mi fr lo P PX kc ks (pc + 3) L S M) : LX TT cl X mi fr lo P PX kc ks pc L (.int x :: S) M := by
  intro p l e R s m args below meth c Qc XC free D sp A as0 F kq kx as L1 S1 H locs cells slots ls h0 hW hS hl hL hSt hc hs
  have h9 := mj_al_cons hSt
  clear hSt
  obtain ⟨_, S1, rfl, rfl, hSt⟩ := h9
  exact lv_if_ne F.1 F.2.1 d ht (fun q => ((kt q) p l e R s m args below meth c Qc XC free D sp A as0 F kq kx as L1 _ H locs cells slots ls h0 hW hS hl hL hSt hc hs)) (fun q => ((kf q) p l e R s m args below meth c Qc XC free D sp A as0 F kq kx as L1 _ H locs cells slots ls h0 hW hS hl hL hSt hc hs))
theorem lx_if_lt {x : Int32} {off : Int} {tgt : Nat} (d : decode mi.2.1 pc = .ok (.ifCond .lt off, 3)) (ht : (pc : Int) + off = (tgt : Int)) (kt : x < 0 → LX TT cl X mi fr lo P PX kc ks tgt L S M) (kf : ¬ (x < 0) → LX TT cl X mi fr lo P PX kc ks (pc + 3) L S M) : LX TT cl X mi fr lo P PX kc ks pc L (.int x :: S) M := by
  intro p l e R s m args below meth c Qc XC free D sp A as0 F kq kx as L1 S1 H locs cells slots ls h0 hW hS hl hL hSt hc hs
  have h9 := mj_al_cons hSt
  clear hSt
  obtain ⟨_, S1, rfl, rfl, hSt⟩ := h9
  exact lv_if_lt F.1 F.2.1 d ht (fun q => ((kt q) p l e R s m args below meth c Qc XC free D sp A as0 F kq kx as L1 _ H locs cells slots ls h0 hW hS hl hL hSt hc hs)) (fun q => ((kf q) p l e R s m args below meth c Qc XC free D sp A as0 F kq kx as L1 _ H locs cells slots ls h0 hW hS hl hL hSt hc hs))
theorem lx_if_ge {x : Int32} {off : Int} {tgt : Nat} (d : decode mi.2.1 pc = .ok (.ifCond .ge off, 3)) (ht : (pc : Int) + off = (tgt : Int)) (kt : 0 ≤ x → LX TT cl X mi fr lo P PX kc ks tgt L S M) (kf : ¬ (0 ≤ x) → LX TT cl X mi fr lo P PX kc ks (pc + 3) L S M) : LX TT cl X mi fr lo P PX kc ks pc L (.int x :: S) M := by
  intro p l e R s m args below meth c Qc XC free D sp A as0 F kq kx as L1 S1 H locs cells slots ls h0 hW hS hl hL hSt hc hs
  have h9 := mj_al_cons hSt
  clear hSt
  obtain ⟨_, S1, rfl, rfl, hSt⟩ := h9
  exact lv_if_ge F.1 F.2.1 d ht (fun q => ((kt q) p l e R s m args below meth c Qc XC free D sp A as0 F kq kx as L1 _ H locs cells slots ls h0 hW hS hl hL hSt hc hs)) (fun q => ((kf q) p l e R s m args below meth c Qc XC free D sp A as0 F kq kx as L1 _ H locs cells slots ls h0 hW hS hl hL hSt hc hs))
theorem lx_if_gt {x : Int32} {off : Int} {tgt : Nat} (d : decode mi.2.1 pc = .ok (.ifCond .gt off, 3)) (ht : (pc : Int) + off = (tgt : Int)) (kt : 0 < x → LX TT cl X mi fr lo P PX kc ks tgt L S M) (kf : ¬ (0 < x) → LX TT cl X mi fr lo P PX kc ks (pc + 3) L S M) : LX TT cl X mi fr lo P PX kc ks pc L (.int x :: S) M := by
  intro p l e R s m args below meth c Qc XC free D sp A as0 F kq kx as L1 S1 H locs cells slots ls h0 hW hS hl hL hSt hc hs
  have h9 := mj_al_cons hSt
  clear hSt
  obtain ⟨_, S1, rfl, rfl, hSt⟩ := h9
  exact lv_if_gt F.1 F.2.1 d ht (fun q => ((kt q) p l e R s m args below meth c Qc XC free D sp A as0 F kq kx as L1 _ H locs cells slots ls h0 hW hS hl hL hSt hc hs)) (fun q => ((kf q) p l e R s m args below meth c Qc XC free D sp A as0 F kq kx as L1 _ H locs cells slots ls h0 hW hS hl hL hSt hc hs))
theorem lx_if_le {x : Int32} {off : Int} {tgt : Nat} (d : decode mi.2.1 pc = .ok (.ifCond .le off, 3)) (ht : (pc : Int) + off = (tgt : Int)) (kt : x ≤ 0 → LX TT cl X mi fr lo P PX kc ks tgt L S M) (kf : ¬ (x ≤ 0) → LX TT cl X mi fr lo P PX kc ks (pc + 3) L S M) : LX TT cl X mi fr lo P PX kc ks pc L (.int x :: S) M := by
  intro p l e R s m args below meth c Qc XC free D sp A as0 F kq kx as L1 S1 H locs cells slots ls h0 hW hS hl hL hSt hc hs
  have h9 := mj_al_cons hSt
  clear hSt
  obtain ⟨_, S1, rfl, rfl, hSt⟩ := h9
  exact lv_if_le F.1 F.2.1 d ht (fun q => ((kt q) p l e R s m args below meth c Qc XC free D sp A as0 F kq kx as L1 _ H locs cells slots ls h0 hW hS hl hL hSt hc hs)) (fun q => ((kf q) p l e R s m args below meth c Qc XC free D sp A as0 F kq kx as L1 _ H locs cells slots ls h0 hW hS hl hL hSt hc hs))
theorem lx_icmp_eq {x y : Int32} {off : Int} {tgt : Nat} (d : decode mi.2.1 pc = .ok (.if_icmp .eq off, 3)) (ht : (pc : Int) + off = (tgt : Int)) (kt : x = y → LX TT cl X mi fr lo P PX kc ks tgt L S M) (kf : ¬ (x = y) → LX TT cl X mi fr lo P PX kc ks (pc + 3) L S M) : LX TT cl X mi fr lo P PX kc ks pc L (.int y :: .int x :: S) M := by
  intro p l e R s m args below meth c Qc XC free D sp A as0 F kq kx as L1 S1 H locs cells slots ls h0 hW hS hl hL hSt hc hs
  have h9 := mj_al_cons hSt
  clear hSt
  obtain ⟨_, S1, rfl, rfl, hSt⟩ := h9
  have h9 := mj_al_cons hSt
  clear hSt
  obtain ⟨_, S1, rfl, rfl, hSt⟩ := h9
  exact lv_icmp_eq F.1 F.2.1 d ht (fun q => ((kt q) p l e R s m args below meth c Qc XC free D sp A as0 F kq kx as L1 _ H locs cells slots ls h0 hW hS hl hL hSt hc hs)) (fun q => ((kf q) p l e R s m args below meth c Qc XC free D sp A as0 F kq kx as L1 _ H locs cells slots ls h0 hW hS hl hL hSt hc hs))
theorem lx_icmp_ne {x y : Int32} {off : Int} {tgt : Nat} (d : decode mi.2.1 pc = .ok (.if_icmp .ne off, 3)) (ht : (pc : Int) + off = (tgt : Int)) (kt : ¬ x = y → LX TT cl X mi fr lo P PX kc ks tgt L S M) (kf : x = y → LX TT cl X mi fr lo P PX kc ks (pc + 3) L S M) : LX TT cl X mi fr lo P PX kc ks pc L (.int y :: .int x :: S) M := by
  intro p l e R s m args below meth c Qc XC free D sp A as0 F kq kx as L1 S1 H locs cells slots ls h0 hW hS hl hL hSt hc hs
  have h9 := mj_al_cons hSt
  clear hSt
  obtain ⟨_, S1, rfl, rfl, hSt⟩ := h9
  have h9 := mj_al_cons hSt
  clear hSt
  obtain ⟨_, S1, rfl, rfl, hSt⟩ := h9
  exact lv_icmp_ne F.1 F.2.1 d ht (fun q => ((kt q) p l e R s m args below meth c Qc XC free D sp A as0 F kq kx as L1 _ H locs cells slots ls h0 hW hS hl hL hSt hc hs)) (fun q => ((kf q) p l e R s m args below meth c Qc XC free D sp A as0 F kq kx as L1 _ H locs cells slots ls h0 hW hS hl hL hSt hc hs))
theorem lx_icmp_lt {x y : Int32} {off : Int} {tgt : Nat} (d : decode mi.2.1 pc = .ok (.if_icmp .lt off, 3)) (ht : (pc : Int) + off = (tgt : Int)) (kt : x < y → LX TT cl X mi fr lo P PX kc ks tgt L S M) (kf : ¬ (x < y) → LX TT cl X mi fr lo P PX kc ks (pc + 3) L S M) : LX TT cl X mi fr lo P PX kc ks pc L (.int y :: .int x :: S) M := by
  intro p l e R s m args below meth c Qc XC free D sp A as0 F kq kx as L1 S1 H locs cells slots ls h0 hW hS hl hL hSt hc hs
  have h9 := mj_al_cons hSt
  clear hSt
  obtain ⟨_, S1, rfl, rfl, hSt⟩ := h9
  have h9 := mj_al_cons hSt
  clear hSt
  obtain ⟨_, S1, rfl, rfl, hSt⟩ := h9
  exact lv_icmp_lt F.1 F.2.1 d ht (fun q => ((kt q) p l e R s m args below meth c Qc XC free D sp A as0 F kq kx as L1 _ H locs cells slots ls h0 hW hS hl hL hSt hc hs)) (fun q => ((kf q) p l e R s m args below meth c Qc XC free D sp A as0 F kq kx as L1 _ H locs cells slots ls h0 hW hS hl hL hSt hc hs))
theorem lx_icmp_ge {x y : Int32} {off : Int} {tgt : Nat} (d : decode mi.2.1 pc = .ok (.if_icmp .ge off, 3)) (ht : (pc : Int) + off = (tgt : Int)) (kt : y ≤ x → LX TT cl X mi fr lo P PX kc ks tgt L S M) (kf : ¬ (y ≤ x) → LX TT cl X mi fr lo P PX kc ks (pc + 3) L S M) : LX TT cl X mi fr lo P PX kc ks pc L (.int y :: .int x :: S) M := by
  intro p l e R s m args below meth c Qc XC free D sp A as0 F kq kx as L1 S1 H locs cells slots ls h0 hW hS hl hL hSt hc hs
  have h9 := mj_al_cons hSt
  clear hSt
  obtain ⟨_, S1, rfl, rfl, hSt⟩ := h9
  have h9 := mj_al_cons hSt
  clear hSt
  obtain ⟨_, S1, rfl, rfl, hSt⟩ := h9
  exact lv_icmp_ge F.1 F.2.1 d ht (fun q => ((kt q) p l e R s m args below meth c Qc XC free D sp A as0 F kq kx as L1 _ H locs cells slots ls h0 hW hS hl hL hSt hc hs)) (fun q => ((kf q) p l e R s m args below meth c Qc XC free D sp A as0 F kq kx as L1 _ H locs cells slots ls h0 hW hS hl hL hSt hc hs))
theorem lx_icmp_gt {x y : Int32} {off : Int} {tgt : Nat} (d : decode mi.2.1 pc = .ok (.if_icmp .gt off, 3)) (ht : (pc : Int) + off = (tgt : Int)) (kt : y < x → LX TT cl X mi fr lo P PX kc ks tgt L S M) (kf : ¬ (y < x) → LX TT cl X mi fr lo P PX kc ks (pc + 3) L S M) : LX TT cl X mi fr lo P PX kc ks pc L (.int y :: .int x :: S) M := by
  intro p l e R s m args below meth c Qc XC free D sp A as0 F kq kx as L1 S1 H locs cells slots ls h0 hW hS hl hL hSt hc hs
  have h9 := mj_al_cons hSt
  clear hSt
  obtain ⟨_, S1, rfl, rfl, hSt⟩ := h9
  have h9 := mj_al_cons hSt
  clear hSt
  obtain ⟨_, S1, rfl, rfl, hSt⟩ := h9
  exact lv_icmp_gt F.1 F.2.1 d ht (fun q => ((kt q) p l e R s m args below meth c Qc XC free D sp A as0 F kq kx as L1 _ H locs cells slots ls h0 hW hS hl hL hSt hc hs)) (fun q => ((kf q) p l e R s m args below meth c Qc XC free D sp A as0 F kq kx as L1 _ H locs cells slots ls h0 hW hS hl hL hSt hc hs))
theorem lx_icmp_le {x y : Int32} {off : Int} {tgt : Nat} (d : decode mi.2.1 pc = .ok (.if_icmp .le off, 3)) (ht : (pc : Int) + off = (tgt : Int)) (kt : x ≤ y → LX TT cl X mi fr lo P PX kc ks tgt L S M) (kf : ¬ (x ≤ y) → LX TT cl X mi fr lo P PX kc ks (pc + 3) L S M) : LX TT cl X mi fr lo P PX kc ks pc L (.int y :: .int x :: S) M := by
  intro p l e R s m args below meth c Qc XC free D sp A as0 F kq kx as L1 S1 H locs cells slots ls h0 hW hS hl hL hSt hc hs
  have h9 := mj_al_cons hSt
  clear hSt
  obtain ⟨_, S1, rfl, rfl, hSt⟩ := h9
  have h9 := mj_al_cons hSt
  clear hSt
  obtain ⟨_, S1, rfl, rfl, hSt⟩ := h9
  exact lv_icmp_le F.1 F.2.1 d ht (fun q => ((kt q) p l e R s m args below meth c Qc XC free D sp A as0 F kq kx as L1 _ H locs cells slots ls h0 hW hS hl hL hSt hc hs)) (fun q => ((kf q) p l e R s m args below meth c Qc XC free D sp A as0 F kq kx as L1 _ H locs cells slots ls h0 hW hS hl hL hSt hc hs))
theorem lx_goto {off : Int} {tgt : Nat} (d : decode mi.2.1 pc = .ok (.goto off, 3)) (ht : (pc : Int) + off = (tgt : Int)) (k : LX TT cl X mi fr lo P PX kc ks tgt L S M) : LX TT cl X mi fr lo P PX kc ks pc L S M := by
  intro p l e R s m args below meth c Qc XC free D sp A as0 F kq kx as L1 S1 H locs cells slots ls h0 hW hS hl hL hSt hc hs
  exact lv_goto F.1 F.2.1 d ht (k p l e R s m args below meth c Qc XC free D sp A as0 F kq kx as L1 _ H locs cells slots ls h0 hW hS hl hL hSt hc hs)
theorem lx_ifnull_r {v : Value} {off : Int} (d : decode mi.2.1 pc = .ok (.ifnull off, 3)) (hv : mj_isR v = true) (k : LX TT cl X mi fr lo P PX kc ks (pc + 3) L S M) : LX TT cl X mi fr lo P PX kc ks pc L (v :: S) M := by
  intro p l e R s m args below meth c Qc XC free D sp A as0 F kq kx as L1 S1 H locs cells slots ls h0 hW hS hl hL hSt hc hs
  have h9 := mj_al_cons hSt
  clear hSt
  obtain ⟨w, S1, rfl, wr, hSt⟩ := h9
  obtain ⟨a, rfl⟩ := mj_isR_spec hv wr
  exact lv_ifnull F.1 F.2.1 d (k p l e R s m args below meth c Qc XC free D sp A as0 F kq kx as L1 _ H locs cells slots ls h0 hW hS hl hL hSt hc hs)
theorem lx_ifnonnull_r {v : Value} {off : Int} {tgt : Nat} (d : decode mi.2.1 pc = .ok (.ifnonnull off, 3)) (ht : (pc : Int) + off = (tgt : Int)) (hv : mj_isR v = true) (k : LX TT cl X mi fr lo P PX kc ks tgt L S M) : LX TT cl X mi fr lo P PX kc ks pc L (v :: S) M := by
  intro p l e R s m args below meth c Qc XC free D sp A as0 F kq kx as L1 S1 H locs cells slots ls h0 hW hS hl hL hSt hc hs
  have h9 := mj_al_cons hSt
  clear hSt
  obtain ⟨w, S1, rfl, wr, hSt⟩ := h9
  obtain ⟨a, rfl⟩ := mj_isR_spec hv wr
  exact lv_ifnonnull F.1 F.2.1 d ht (k p l e R s m args below meth c Qc XC free D sp A as0 F kq kx as L1 _ H locs cells slots ls h0 hW hS hl hL hSt hc hs)
theorem lx_ifnull_n {off : Int} {tgt : Nat} (d : decode mi.2.1 pc = .ok (.ifnull off, 3)) (ht : (pc : Int) + off = (tgt : Int)) (k : LX TT cl X mi fr lo P PX kc ks tgt L S M) : LX TT cl X mi fr lo P PX kc ks pc L (.null :: S) M := by
  intro p l e R s m args below meth c Qc XC free D sp A as0 F kq kx as L1 S1 H locs cells slots ls h0 hW hS hl hL hSt hc hs
  have h9 := mj_al_cons hSt
  clear hSt
  obtain ⟨_, S1, rfl, rfl, hSt⟩ := h9
  exact lv_ifnullN F.1 F.2.1 d ht (k p l e R s m args below meth c Qc XC free D sp A as0 F kq kx as L1 _ H locs cells slots ls h0 hW hS hl hL hSt hc hs)
theorem lx_ifnonnull_n {off : Int} (d : decode mi.2.1 pc = .ok (.ifnonnull off, 3)) (k : LX TT cl X mi fr lo P PX kc ks (pc + 3) L S M) : LX TT cl X mi fr lo P PX kc ks pc L (.null :: S) M := by
  intro p l e R s m args below meth c Qc XC free D sp A as0 F kq kx as L1 S1 H locs cells slots ls h0 hW hS hl hL hSt hc hs
  have h9 := mj_al_cons hSt
  clear hSt
  obtain ⟨_, S1, rfl, rfl, hSt⟩ := h9
  exact lv_ifnonnullN F.1 F.2.1 d (k p l e R s m args below meth c Qc XC free D sp A as0 F kq kx as L1 _ H locs cells slots ls h0 hW hS hl hL hSt hc hs)
theorem lx_lookup {dflt : Int} {ps : Array (Int × Int)} {len : Nat} {x : Int32} {off : Int} {tgt : Nat} (d : decode mi.2.1 pc = .ok (.lookupswitch dflt ps, len)) (hp : (ps.toList.zip (ps.toList.drop 1)).all (fun (a, next) => a.1 < next.1) = true) (ho : Op.lookupswitch.offset ps.toList dflt x.toInt = off) (ht : (pc : Int) + off = (tgt : Int)) (k : LX TT cl X mi fr lo P PX kc ks tgt L S M) : LX TT cl X mi fr lo P PX kc ks pc L (.int x :: S) M := by
  intro p l e R s m args below meth c Qc XC free D sp A as0 F kq kx as L1 S1 H locs cells slots ls h0 hW hS hl hL hSt hc hs
  have h9 := mj_al_cons hSt
  clear hSt
  obtain ⟨_, S1, rfl, rfl, hSt⟩ := h9
  exact lv_lookup F.1 F.2.1 d hp ho ht (k p l e R s m args below meth c Qc XC free D sp A as0 F kq kx as L1 _ H locs cells slots ls h0 hW hS hl hL hSt hc hs)
theorem lx_tableIn {dflt lo9 hi9 : Int} {offs : Array Int} {len : Nat} {x : Int32} {off : Int} {tgt : Nat} (d : decode mi.2.1 pc = .ok (.tableswitch dflt lo9 hi9 offs, len)) (h1 : ¬ x.toInt < lo9) (h2 : ¬ hi9 < x.toInt) (ho : offs[(x.toInt - lo9).toNat]? = some off) (ht : (pc : Int) + off = (tgt : Int)) (k : LX TT cl X mi fr lo P PX kc ks tgt L S M) : LX TT cl X mi fr lo P PX kc ks pc L (.int x :: S) M := by
  intro p l e R s m args below meth c Qc XC free D sp A as0 F kq kx as L1 S1 H locs cells slots ls h0 hW hS hl hL hSt hc hs
  have h9 := mj_al_cons hSt
  clear hSt
  obtain ⟨_, S1, rfl, rfl, hSt⟩ := h9
  exact lv_tableIn F.1 F.2.1 d h1 h2 ho ht (k p l e R s m args below meth c Qc XC free D sp A as0 F kq kx as L1 _ H locs cells slots ls h0 hW hS hl hL hSt hc hs)
theorem lx_tableOut {dflt lo9 hi9 : Int} {offs : Array Int} {len : Nat} {x : Int32} {tgt : Nat} (d : decode mi.2.1 pc = .ok (.tableswitch dflt lo9 hi9 offs, len)) (h9 : x.toInt < lo9 ∨ hi9 < x.toInt) (ht : (pc : Int) + dflt = (tgt : Int)) (k : LX TT cl X mi fr lo P PX kc ks tgt L S M) : LX TT cl X mi fr lo P PX kc ks pc L (.int x :: S) M := by
  intro p l e R s m args below meth c Qc XC free D sp A as0 F kq kx as L1 S1 H locs cells slots ls h0 hW hS hl hL hSt hc hs
  have h9 := mj_al_cons hSt
  clear hSt
  obtain ⟨_, S1, rfl, rfl, hSt⟩ := h9
  exact lv_tableOut F.1 F.2.1 d h9 ht (k p l e R s m args below meth c Qc XC free D sp A as0 F kq kx as L1 _ H locs cells slots ls h0 hW hS hl hL hSt hc hs)
theorem lx_ireturn {v : Int32} {ty : FieldType} (d : decode mi.2.1 pc = .ok (.ireturn, 1)) (hr : mi.2.2.2.1 = some ty) (hn : narrow ty (.int v) = .int v) (h : P (some (.int v)) M) : LX TT cl X mi fr lo P PX kc ks pc L [.int v] M := by
  intro p l e R s m args below meth c Qc XC free D sp A as0 F kq kx as L1 S1 H locs cells slots ls h0 hW hS hl hL hSt hc hs
  have h9 := mj_al_cons hSt
  clear hSt
  obtain ⟨_, S1, rfl, rfl, hSt⟩ := h9
  rw [mj_al_nil hSt]
  refine W.widen (k := R.cells) (n := R.slots) (by omega) (by omega) (vx_ret ?_)
  exact W.zret F.1 F.2.1 (F.2.2.2.2.2.1.trans hr) hn (fun t ht hw => kq as M _ _ t h ⟨_, rfl, rfl⟩ hw (by rw [ht]; exact hW) (hS.F ht) h0) (fun q hq => F.2.2.2.2.2.2.2.2.2.2.2.2.2.1 _ (hS.2.2 q hq)) d F.2.2.2.2.2.2.1
theorem lx_lreturn {v : Int64} (d : decode mi.2.1 pc = .ok (.lreturn, 1)) (hr : mi.2.2.2.1 = some .long) (h : P (some (.long v)) M) : LX TT cl X mi fr lo P PX kc ks pc L [.long v] M := by
  intro p l e R s m args below meth c Qc XC free D sp A as0 F kq kx as L1 S1 H locs cells slots ls h0 hW hS hl hL hSt hc hs
  have h9 := mj_al_cons hSt
  clear hSt
  obtain ⟨_, S1, rfl, rfl, hSt⟩ := h9
  rw [mj_al_nil hSt]
  refine W.widen (k := R.cells) (n := R.slots) (by omega) (by omega) (vx_ret ?_)
  exact W.lret F.1 F.2.1 (F.2.2.2.2.2.1.trans hr) (fun t ht hw => kq as M _ _ t h ⟨_, rfl, rfl⟩ hw (by rw [ht]; exact hW) (hS.F ht) h0) (fun q hq => F.2.2.2.2.2.2.2.2.2.2.2.2.2.1 _ (hS.2.2 q hq)) d F.2.2.2.2.2.2.1
theorem lx_freturn {v : UInt32} (d : decode mi.2.1 pc = .ok (.freturn, 1)) (hr : mi.2.2.2.1 = some .float) (h : P (some (.float v)) M) : LX TT cl X mi fr lo P PX kc ks pc L [.float v] M := by
  intro p l e R s m args below meth c Qc XC free D sp A as0 F kq kx as L1 S1 H locs cells slots ls h0 hW hS hl hL hSt hc hs
  have h9 := mj_al_cons hSt
  clear hSt
  obtain ⟨_, S1, rfl, rfl, hSt⟩ := h9
  rw [mj_al_nil hSt]
  refine W.widen (k := R.cells) (n := R.slots) (by omega) (by omega) (vx_ret ?_)
  exact W.fret F.1 F.2.1 (F.2.2.2.2.2.1.trans hr) (fun t ht hw => kq as M _ _ t h ⟨_, rfl, rfl⟩ hw (by rw [ht]; exact hW) (hS.F ht) h0) (fun q hq => F.2.2.2.2.2.2.2.2.2.2.2.2.2.1 _ (hS.2.2 q hq)) d F.2.2.2.2.2.2.1
theorem lx_dreturn {v : UInt64} (d : decode mi.2.1 pc = .ok (.dreturn, 1)) (hr : mi.2.2.2.1 = some .double) (h : P (some (.double v)) M) : LX TT cl X mi fr lo P PX kc ks pc L [.double v] M := by
  intro p l e R s m args below meth c Qc XC free D sp A as0 F kq kx as L1 S1 H locs cells slots ls h0 hW hS hl hL hSt hc hs
  have h9 := mj_al_cons hSt
  clear hSt
  obtain ⟨_, S1, rfl, rfl, hSt⟩ := h9
  rw [mj_al_nil hSt]
  refine W.widen (k := R.cells) (n := R.slots) (by omega) (by omega) (vx_ret ?_)
  exact W.dret F.1 F.2.1 (F.2.2.2.2.2.1.trans hr) (fun t ht hw => kq as M _ _ t h ⟨_, rfl, rfl⟩ hw (by rw [ht]; exact hW) (hS.F ht) h0) (fun q hq => F.2.2.2.2.2.2.2.2.2.2.2.2.2.1 _ (hS.2.2 q hq)) d F.2.2.2.2.2.2.1
theorem lx_return  (d : decode mi.2.1 pc = .ok (.return_, 1)) (hr : mi.2.2.2.1 = none) (h : P none M) : LX TT cl X mi fr lo P PX kc ks pc L [] M := by
  intro p l e R s m args below meth c Qc XC free D sp A as0 F kq kx as L1 S1 H locs cells slots ls h0 hW hS hl hL hSt hc hs
  rw [mj_al_nil hSt]
  refine W.widen (k := R.cells) (n := R.slots) (by omega) (by omega) (vx_ret ?_)
  exact W.vret F.1 F.2.1 (F.2.2.2.2.2.1.trans hr) (fun t ht hw => kq as M none none t h rfl hw (by rw [ht]; exact hW) (hS.F ht) h0) (fun q hq => F.2.2.2.2.2.2.2.2.2.2.2.2.2.1 _ (hS.2.2 q hq)) d F.2.2.2.2.2.2.1
theorem lx_areturn {v : Value} {rt9 : FieldType} (d : decode mi.2.1 pc = .ok (.areturn, 1)) (hr : mi.2.2.2.1 = some rt9) (hrt : (∃ n, rt9 = .object n) ∨ ∃ t, rt9 = .array t) (hv : mj_isr v = true) (h : P (some v) M) : LX TT cl X mi fr lo P PX kc ks pc L [v] M := by
  intro p l e R s m args below meth c Qc XC free D sp A as0 F kq kx as L1 S1 H locs cells slots ls h0 hW hS hl hL hSt hc hs
  have h9 := mj_al_cons hSt
  clear hSt
  obtain ⟨w, S1, rfl, wr, hSt⟩ := h9
  rw [mj_al_nil hSt]
  have hv9 : w = .null ∨ ∃ a, w = .ref a := by
    rcases mj_isr_spec hv wr with ⟨a, rfl⟩ | rfl
    · exact Or.inr ⟨a, rfl⟩
    · exact Or.inl rfl
  refine W.widen (k := R.cells) (n := R.slots) (by omega) (by omega) (vx_ret ?_)
  exact W.aret F.1 F.2.1 (F.2.2.2.2.2.1.trans hr) hrt hv9 (fun t ht hw => kq as M _ _ t h ⟨_, rfl, wr⟩ hw (by rw [ht]; exact hW) (hS.F ht) h0) (fun q hq => F.2.2.2.2.2.2.2.2.2.2.2.2.2.1 _ (hS.2.2 q hq)) d F.2.2.2.2.2.2.1
theorem lx_sub {L2 : List (Nat × Value)} (is : List Nat) (hp : lv_pick L is = L2) (k : LX TT cl X mi fr lo P PX kc ks pc L2 S M) : LX TT cl X mi fr lo P PX kc ks pc L S M := by
  intro p l e R s m args below meth c Qc XC free D sp A as0 F kq kx as L1 S1 H locs cells slots ls h0 hW hS hl hL hSt hc hs
  subst hp
  obtain ⟨L3, h3, h4⟩ := mj_pick hL is
  exact (k p l e R s m args below meth c Qc XC free D sp A as0 F kq kx as L3 _ H locs cells slots ls h0 hW hS (lv_sub hl is h3) h4 hSt hc hs)
theorem lx_room {kc1 ks1 : Nat} (hc9 : kc1 ≤ kc) (hs9 : ks1 ≤ ks) (k : LX TT cl X mi fr lo P PX kc1 ks1 pc L S M) : LX TT cl X mi fr lo P PX kc ks pc L S M := by
  intro p l e R s m args below meth c Qc XC free D sp A as0 F kq kx as L1 S1 H locs cells slots ls h0 hW hS hl hL hSt hc hs
  exact k p l e R s m args below meth c Qc XC free D sp A as0 F kq kx as L1 _ H locs cells slots ls h0 hW hS hl hL hSt (by omega) (by omega)
end MJR1
end
section
section MJ2
/-- the heap with one more thing -/
theorem mj_WR_push {D : va_G} {cl : List vw_C} {sp : Nat → Nat} {A : Nat → Prop} {U : State} {as : List Nat} {M : mH} {ws : va_W} {tys tys1 : List (ClassId × FieldType)} {H1 : Heap} {q : Nat} {e : mE} {x : va_E}
    (hK : va_K D cl tys1 U) (hP : va_P D cl (ws ++ [(q, x)]) H1) (hD : va_D A (ws ++ [(q, x)])) (hr : mj_hr as sp tys M ws) (ht : ∀ (i : Nat) (z : ClassId × FieldType), tys[i]? = some z → tys1[i]? = some z) (he : mj_er (as ++ [q]) sp tys1 e x) : mj_WR D cl sp A U (as ++ [q]) (M ++ [e]) H1 := by
  refine ⟨_, tys1, hK, hP, hD, by simp [hr.1], by simp [hr.2.1], fun i e1 hi => ?_⟩
  rcases Nat.lt_or_ge i M.length with hlt | hge
  · rw [List.getElem?_append_left hlt] at hi
    obtain ⟨a, y, h1, h2, h3⟩ := hr.2.2 i e1 hi
    exact ⟨a, y, mj_le_app _ _ h1, by rw [List.getElem?_append_left (by rw [hr.2.1]; exact hlt)]; exact h2, mj_er_mono mj_le_app ht h3⟩
  · rw [List.getElem?_append_right hge] at hi
    have h0 : i - M.length = 0 := by
      rcases Nat.eq_zero_or_pos (i - M.length) with h | h
      · exact h
      · rw [List.getElem?_eq_none (by simp; omega)] at hi; cases hi
    have hi1 : i = M.length := by omega
    subst hi1
    simp at hi
    subst hi
    refine ⟨q, x, ?_, ?_, he⟩
    · rw [← hr.1]; simp
    · rw [← hr.2.1]; simp
theorem mj_hr_set {as : List Nat} {sp : Nat → Nat} {M : mH} {ws : va_W} {tys : List (ClassId × FieldType)} {i a : Nat} {e : mE} {x : va_E} (hr : mj_hr as sp tys M ws) (ha : as[i]? = some a) (he : mj_er as sp tys e x) : mj_hr as sp tys (M.set i e) (ws.set i (a, x)) := by
  refine ⟨by simp [hr.1], by simp [hr.2.1], fun j e1 hj => ?_⟩
  by_cases h : i = j
  · subst h
    have hlt : i < M.length := by
      have := (List.getElem?_eq_some_iff.mp hj).1
      simpa using this
    rw [List.getElem?_set_self hlt] at hj
    cases hj
    exact ⟨a, x, ha, by rw [List.getElem?_set_self (by rw [hr.2.1]; exact hlt)], he⟩
  · rw [List.getElem?_set_ne h] at hj
    obtain ⟨a1, y, h1, h2, h3⟩ := hr.2.2 j e1 hj
    exact ⟨a1, y, h1, by rw [List.getElem?_set_ne h]; exact h2, h3⟩
/-- an object of the heap, as the machine has it -/
theorem mj_obj {as : List Nat} {sp : Nat → Nat} {M : mH} {ws : va_W} {tys : List (ClassId × FieldType)} {i a : Nat} {ci : Nat} {fs : List Value} (hr : mj_hr as sp tys M ws) (ha : as[i]? = some a) (hi : M[i]? = some (.inr (ci, fs))) : ∃ gs, ws[i]? = some (a, .inr (ci, gs)) ∧ mj_al (mj_vr as sp) fs gs := by
  obtain ⟨a1, y, h1, h2, h3⟩ := hr.2.2 i _ hi
  cases ha.symm.trans h1
  rcases y with y | ⟨cj, gs⟩
  · exact h3.elim
  · obtain ⟨e1, e2⟩ := h3
    cases e1
    exact ⟨gs, h2, e2⟩
theorem mj_arr {as : List Nat} {sp : Nat → Nat} {M : mH} {ws : va_W} {tys : List (ClassId × FieldType)} {i a : Nat} {ty : FieldType} {x : vp_A} (hr : mj_hr as sp tys M ws) (ha : as[i]? = some a) (hi : M[i]? = some (.inl (ty, x))) : ∃ (cA t : Nat) (y : vp_A), ws[i]? = some (a, .inl (cA, y)) ∧ tys[t]? = some (cA, ty) ∧ mj_ar as x y := by
  obtain ⟨a1, y, h1, h2, h3⟩ := hr.2.2 i _ hi
  cases ha.symm.trans h1
  rcases y with ⟨cA, y⟩ | y
  · obtain ⟨⟨t, e1⟩, e2⟩ := h3
    exact ⟨cA, t, y, h2, e1, e2⟩
  · exact h3.elim
theorem mj_ar_i {as : List Nat} {n : Nat} {f : Nat → Int32} {y : vp_A} (h : mj_ar as (n, .inl f) y) : y = (n, .inl f) := by
  obtain ⟨m, y⟩ := y
  obtain ⟨h1, h2⟩ := h
  rcases y with g | g | g | g | g <;> first | exact h2.elim | skip
  cases (h1 : n = m); cases (h2 : f = g); rfl
theorem mj_ar_l {as : List Nat} {n : Nat} {f : Nat → Int64} {y : vp_A} (h : mj_ar as (n, .inr (.inl f)) y) : y = (n, .inr (.inl f)) := by
  obtain ⟨m, y⟩ := y
  obtain ⟨h1, h2⟩ := h
  rcases y with g | g | g | g | g <;> first | exact h2.elim | skip
  cases (h1 : n = m); cases (h2 : f = g); rfl
theorem mj_ar_d {as : List Nat} {n : Nat} {f : Nat → UInt64} {y : vp_A} (h : mj_ar as (n, .inr (.inr (.inr (.inl f)))) y) : y = (n, .inr (.inr (.inr (.inl f)))) := by
  obtain ⟨m, y⟩ := y
  obtain ⟨h1, h2⟩ := h
  rcases y with g | g | g | g | g <;> first | exact h2.elim | skip
  cases (h1 : n = m); cases (h2 : f = g); rfl
theorem mj_ar_q {as : List Nat} {n : Nat} {f : Nat → Option Nat} {y : vp_A} (h : mj_ar as (n, .inr (.inr (.inr (.inr f)))) y) : ∃ g, y = (n, .inr (.inr (.inr (.inr g)))) ∧ ∀ j, mj_qr as (f j) (g j) := by
  obtain ⟨m, y⟩ := y
  obtain ⟨h1, h2⟩ := h
  rcases y with g | g | g | g | g <;> first | exact h2.elim | skip
  cases (h1 : n = m); exact ⟨g, rfl, h2⟩
theorem mj_ar_len {as : List Nat} {x y : vp_A} (h : mj_ar as x y) : y.1 = x.1 := h.1.symm
theorem mj_narrow {as : List Nat} {sp : Nat → Nat} {ty : FieldType} {v w : Value} (hr : mj_vr as sp v w) (hn : narrow ty v = v) : narrow ty w = w := by
  cases v with
  | ref i => obtain ⟨a, h1, rfl⟩ := hr; cases ty <;> rfl
  | retAddr k => obtain ⟨a, rfl, h1⟩ := hr; cases ty <;> rfl
  | null => rw [show w = _ from hr]; exact hn
  | int x => rw [show w = _ from hr]; exact hn
  | long x => rw [show w = _ from hr]; exact hn
  | float x => rw [show w = _ from hr]; exact hn
  | double x => rw [show w = _ from hr]; exact hn
def mj_fits (ty : FieldType) (v : Value) : Bool := match v with | .retAddr _ => fits ty .null | v => fits ty v
theorem mj_fit {as : List Nat} {sp : Nat → Nat} {ty : FieldType} {v w : Value} (hr : mj_vr as sp v w) (hn : mj_fits ty v = true) : fits ty w = true := by
  cases v with
  | ref i => obtain ⟨a, h1, rfl⟩ := hr; cases ty <;> first | rfl | exact hn
  | retAddr k => obtain ⟨a, rfl, h1⟩ := hr; cases ty <;> first | rfl | exact hn
  | null => rw [show w = _ from hr]; exact hn
  | int x => rw [show w = _ from hr]; exact hn
  | long x => rw [show w = _ from hr]; exact hn
  | float x => rw [show w = _ from hr]; exact hn
  | double x => rw [show w = _ from hr]; exact hn
theorem mj_al_pl {as : List Nat} {sp : Nat → Nat} : ∀ {fs : List Value}, fs.all mj_pl = true → mj_al (mj_vr as sp) fs fs := by
  intro fs
  induction fs with
  | nil => intro _; trivial
  | cons v fs ih =>
    intro h
    rw [List.all_cons, Bool.and_eq_true] at h
    exact ⟨mj_pl_rf h.1, ih h.2⟩
/-- a field, told by its class number and place: what the words say -/
def mj_FS (TT : List Cond) (cl : List vw_C) (own : String) (index ci k : Nat) : Prop :=
  ∃ (C : String) (T : u_T) (N : Nat), cl[ci]? = some (C, T, N) ∧ (∀ w ∈ u_ws C T N, w ∈ TT) ∧ k < N ∧ Cond.fieldLink own index (T k).1 (T k).2.1 (T k).2.2.1 ∈ TT
def mj_PS (TT : List Cond) (cl : List vw_C) (own : String) (index ci k : Nat) (ty : FieldType) (fin : Bool) : Prop :=
  ∃ (C : String) (T : u_T) (N : Nat) (ty0 : Nat → FieldType), cl[ci]? = some (C, T, N) ∧ (∀ w ∈ u_ws C T N, w ∈ TT) ∧ k < N ∧ Cond.fieldLink own index (T k).1 (T k).2.1 (T k).2.2.1 ∈ TT ∧
    (∀ k, k < N → parseFieldDescriptor (T k).2.2.1 = some (ty0 k)) ∧ (∀ a, a < N → ∀ b, b < N → a ≠ b → (T a).2.1 ≠ (T b).2.1) ∧ parseFieldDescriptor (T k).2.2.1 = some ty ∧ (T k).2.2.2 = fin ∧ (fin = true → (T k).1 = own)
/-- a class whose objects are made -/
def mj_NS (TT : List Cond) (cl : List vw_C) (own : String) (index ci N : Nat) (fs : List Value) : Prop :=
  ∃ (C : String) (T : u_T) (ty : Nat → FieldType), cl[ci]? = some (C, T, N) ∧ (∀ w ∈ u_ws C T N, w ∈ TT) ∧ (∀ k, k < N → parseFieldDescriptor (T k).2.2.1 = some (ty k)) ∧ Cond.classLink own index C ∈ TT ∧ Cond.instantiable C N ∈ TT ∧ Cond.initialized C ∈ TT ∧ (∀ j, j < N → defaultValue (ty j) = vp_V fs j)
variable {TT : List Cond} {cl : List vw_C} {X : XT} {mi : MI} {fr lo : Nat} {P : Option Value → mH → Prop} {PX : String → mH → Prop} {kc ks pc : Nat} {L : List (Nat × Value)} {S : List Value} {M : mH}
theorem lx_getfield {index i ci k : Nat} {fs : List Value} {v : Value} (d : decode mi.2.1 pc = .ok (.getfield index, 3)) (hf : mj_FS TT cl mi.1.cls index ci k) (hM : M[i]? = some (.inr (ci, fs))) (hv : fs[k]? = some v)
    (kk : LX TT cl X mi fr lo P PX kc ks (pc + 3) L (v :: S) M) : LX TT cl X mi fr lo P PX kc ks pc L (.ref i :: S) M := by
  intro p l e R s m args below meth c Qc XC free D sp A as0 F kq kx as L1 S1 H locs cells slots ls h0 hW hS hl hL hSt hc hs
  have h9 := mj_al_cons hSt
  clear hSt
  obtain ⟨w, S1, rfl, ⟨a, ha, rfl⟩, hSt⟩ := h9
  have hW0 := hW
  obtain ⟨ws, tys, hK, hP, hD, hr⟩ := hW
  obtain ⟨gs, h1, h2⟩ := mj_obj hr ha hM
  obtain ⟨y, h3, h4⟩ := mj_al_get h2 hv
  obtain ⟨C, T, N, e1, e2, e3, e4⟩ := hf
  exact va_get (D := D) F.1 F.2.1 F.2.2.2.2.1 e2 F.2.2.2.1 hK hP i h1 e1 k e3 (F.2.2.2.2.1 _ e4) (fun _ h => h) h3 d (kk p l e R s m args below meth c Qc XC free D sp A as0 F kq kx as L1 _ H locs cells slots ls h0 hW0 hS hl hL ⟨h4, hSt⟩ hc hs)
theorem lx_putfield {index i ci k : Nat} {fs : List Value} {v : Value} {ty : FieldType} (d : decode mi.2.1 pc = .ok (.putfield index, 3)) (hf : mj_PS TT cl mi.1.cls index ci k ty false) (hM : M[i]? = some (.inr (ci, fs))) (hk : k < fs.length) (hn : narrow ty v = v) (hfi : mj_fits ty v = true)
    (kk : LX TT cl X mi fr lo P PX kc ks (pc + 3) L S (M.set i (.inr (ci, fs.set k v)))) : LX TT cl X mi fr lo P PX kc ks pc L (v :: .ref i :: S) M := by
  intro p l e R s m args below meth c Qc XC free D sp A as0 F kq kx as L1 S1 H locs cells slots ls h0 hW hS hl hL hSt hc hs
  have h9 := mj_al_cons hSt
  clear hSt
  obtain ⟨w, S1, rfl, wr, hSt⟩ := h9
  have h9 := mj_al_cons hSt
  clear hSt
  obtain ⟨w1, S1, rfl, ⟨a, ha, rfl⟩, hSt⟩ := h9
  obtain ⟨ws, tys, hK, hP, hD, hr⟩ := hW
  obtain ⟨gs, h1, h2⟩ := mj_obj hr ha hM
  obtain ⟨C, T, N, ty0, e1, e2, e3, e4, e5, e6, e7, e8, -⟩ := hf
  exact va_put (D := D) F.1 F.2.1 F.2.2.2.2.1 e2 ty0 e5 e6 F.2.2.2.1 hK hP hD hS i h1 e1 k e3 (F.2.2.2.2.1 _ e4) (fun _ h => h) e8 e7 (mj_narrow wr hn) (mj_fit wr hfi) (by rw [mj_al_len h2]; exact hk) d (fun H1 locs1 hP1 hD1 hS1 =>
    kk p l e R s m args below meth c Qc XC free D sp A as0 F kq kx as L1 _ H1 locs1 cells slots ls h0 ⟨_, tys, hK, hP1, hD1, mj_hr_set hr ha ⟨rfl, mj_al_set wr h2⟩⟩ hS1 hl hL hSt hc hs)
theorem lx_putfinal {index i ci k : Nat} {fs : List Value} {v : Value} {ty : FieldType} (d : decode mi.2.1 pc = .ok (.putfield index, 3)) (hini : mi.1.name = "<init>") (hf : mj_PS TT cl mi.1.cls index ci k ty true) (hM : M[i]? = some (.inr (ci, fs))) (hk : k < fs.length) (hn : narrow ty v = v) (hfi : mj_fits ty v = true)
    (kk : LX TT cl X mi fr lo P PX kc ks (pc + 3) L S (M.set i (.inr (ci, fs.set k v)))) : LX TT cl X mi fr lo P PX kc ks pc L (v :: .ref i :: S) M := by
  intro p l e R s m args below meth c Qc XC free D sp A as0 F kq kx as L1 S1 H locs cells slots ls h0 hW hS hl hL hSt hc hs
  have h9 := mj_al_cons hSt
  clear hSt
  obtain ⟨w, S1, rfl, wr, hSt⟩ := h9
  have h9 := mj_al_cons hSt
  clear hSt
  obtain ⟨w1, S1, rfl, ⟨a, ha, rfl⟩, hSt⟩ := h9
  obtain ⟨ws, tys, hK, hP, hD, hr⟩ := hW
  obtain ⟨gs, h1, h2⟩ := mj_obj hr ha hM
  obtain ⟨C, T, N, ty0, e1, e2, e3, e4, e5, e6, e7, e8, e9⟩ := hf
  exact va_putF (D := D) F.1 F.2.1 F.2.2.2.2.1 e2 ty0 e5 e6 F.2.2.2.1 hK hP hD hS i h1 e1 k e3 (F.2.2.2.2.1 _ e4) (fun _ h => h) e8 (F.2.2.2.2.2.2.2.2.1.trans hini) (e9 rfl) e7 (mj_narrow wr hn) (mj_fit wr hfi) (by rw [mj_al_len h2]; exact hk) d (fun H1 locs1 hP1 hD1 hS1 =>
    kk p l e R s m args below meth c Qc XC free D sp A as0 F kq kx as L1 _ H1 locs1 cells slots ls h0 ⟨_, tys, hK, hP1, hD1, mj_hr_set hr ha ⟨rfl, mj_al_set wr h2⟩⟩ hS1 hl hL hSt hc hs)
theorem lx_new {index ci N : Nat} {fs : List Value} {kc ks : Nat} (d : decode mi.2.1 pc = .ok (.new index, 3)) (hf : mj_NS TT cl mi.1.cls index ci N fs) (hp : fs.all mj_pl = true)
    (kk : LX TT cl X mi fr lo P PX kc ks (pc + 3) L (.ref M.length :: S) (M ++ [.inr (ci, fs)])) : LX TT cl X mi fr lo P PX (kc + 1) (ks + N) pc L S M := by
  intro p l e R s m args below meth c Qc XC free D sp A as0 F kq kx as L1 S1 H locs cells slots ls h0 hW hS hl hL hSt hc hs
  obtain ⟨ws, tys, hK, hP, hD, hr⟩ := hW
  obtain ⟨C, T, ty, e1, e2, e3, e4, e5, e6, e7⟩ := hf
  refine va_new (D := D) F.1 F.2.1 F.2.2.2.2.1 e2 ty e3 F.2.2.2.1 (F.2.2.2.2.1 _ e4) (F.2.2.2.2.1 _ e5) (F.2.2.2.2.1 _ e6) hK hP hD hS F.2.2.2.2.2.2.2.2.2.2.2.2.1 e1 e7 (by omega) (by omega) d (fun q H1 hP1 hD1 hS1 => ?_)
  have hle : mj_le as (as ++ [q]) := mj_le_app
  exact kk p l e R s m args below meth c Qc XC free D sp A as0 F kq kx (as ++ [q]) L1 _ H1 locs (cells + 1) (slots + N) ls (mj_le_tr h0 hle) (mj_WR_push hK hP1 hD1 hr (fun _ _ h => h) ⟨rfl, mj_al_pl hp⟩) hS1 hl (mj_al_mono (fun _ _ h => mj_lr_mono hle h) hL)
    ⟨⟨q, by rw [← hr.1]; simp, rfl⟩, mj_al_mono (fun _ _ h => mj_vr_mono hle h) hSt⟩ (by omega) (by omega)
end MJ2
end
section
section MJ3
/-- a word that a call takes along -/
def mj_pw (w : Cond) : Bool := (w.onTables && w.keepsH) || (match w with | .arrayClass _ => true | _ => false)
theorem mj_pw_at {args a1 : Array Value} {s U : State} (hW : s.WarmedH U.vm) {w : Cond} (hp : mj_pw w = true) (h : w.before args s = true) : w.before a1 U = true := by
  unfold mj_pw at hp
  rw [Bool.or_eq_true] at hp
  rcases hp with hp | hp
  · rw [Bool.and_eq_true] at hp
    exact Cond.onTables_warmH (args' := a1) (T := U) hW hp.1 hp.2 h
  · cases w <;> first | exact word_at hW (Or.inr ⟨_, rfl⟩) h | cases hp
def mj_A (as : List Nat) (sz : Nat) : Nat → Prop := fun q => q ∈ as ∨ sz ≤ q
def mj_Q (cl : List vw_C) (P : Option Value → mH → Prop) (D : va_G) (sp : Nat → Nat) (as : List Nat) (sz : Nat) : Array Value → State → Outcome → State → Prop := fun _ st o t =>
  ∃ (as1 : List Nat) (M1 : mH) (v w : Option Value), o = .returned w ∧ P v M1 ∧ mj_or as1 sp v w ∧ mj_WR D cl sp (mj_A as sz) t as1 M1 t.heap ∧ va_F (mj_A as sz) st t ∧ mj_le as as1
def mj_QX (cl : List vw_C) (PX : String → mH → Prop) (D : va_G) (sp : Nat → Nat) (as : List Nat) (sz : Nat) : String → State → State → Prop := fun E st t =>
  ∃ (as1 : List Nat) (M1 : mH), PX E M1 ∧ mj_WR D cl sp (mj_A as sz) t as1 M1 t.heap ∧ va_F (mj_A as sz) st t ∧ mj_le as as1
def mj_B (cl : List vw_C) (X : XT) (D : va_G) (sp : Nat → Nat) (as : List Nat) (M : mH) (sz : Nat) : State → Prop := fun U =>
  U.heap.size = sz ∧ mj_WR D cl sp (mj_A as sz) U as M U.heap ∧ X (mj_A as sz) sp U U.heap
def mj_cw (mi : MI) : Cond := match mi.2.2.2.2 with
  | [] => .code mi.1 mi.2.1 mi.2.2.1 mi.2.2.2.1
  | h :: hs => .codeWith mi.1 mi.2.1 mi.2.2.1 mi.2.2.2.1 (h :: hs)
/-- what a method does, from these arguments over this heap, with so many frames, words of locals, cells and slots -/
def EV (TT : List Cond) (cl : List vw_C) (X : XT) (mi : MI) (fr lo kc ks : Nat) (a : List Value) (M : mH) (P : Option Value → mH → Prop) (PX : String → mH → Prop) : Prop :=
  ∀ (l : Launch) (D : va_G) (sp : Nat → Nat) (as : List Nat) (a1 : List Value) (sz : Nat), l.stackTraces = false → mj_al (mj_vr as sp) a a1 →
    vx_Met l mi.1 (mj_cw mi :: TT) ({ frames := fr, cells := kc, slots := ks, locals := lo } : Room) (va_Pc a1 (mj_B cl X D sp as M sz)) (mj_Q cl P D sp as sz) (mj_QX cl PX D sp as sz) kc ks (mj_A as sz)
theorem mj_sl_len {as : List Nat} {sp : Nat → Nat} : ∀ {a b : List Value}, mj_al (mj_vr as sp) a b → (lg_sl b).length = (lg_sl a).length := by
  intro a
  induction a with
  | nil => intro b h; rw [mj_al_nil h]
  | cons v a ih =>
    intro b h
    obtain ⟨w, b, rfl, h1, h2⟩ := mj_al_cons h
    have := ih h2
    unfold lg_sl at this ⊢
    rw [List.flatMap_cons, List.flatMap_cons, List.length_append, List.length_append, this, mj_vr_cat h1]
    split <;> rfl
theorem mj_args_al {as : List Nat} {sp : Nat → Nat} : ∀ {a b : List Value} (i : Nat), mj_al (mj_vr as sp) a b → mj_al (mj_lr as sp) (lv_args i a) (lv_args i b) := by
  intro a
  induction a with
  | nil => intro b i h; rw [mj_al_nil h]; trivial
  | cons v a ih =>
    intro b i h
    obtain ⟨w, b, rfl, h1, h2⟩ := mj_al_cons h
    refine ⟨⟨rfl, h1⟩, ?_⟩
    rw [mj_vr_cat h1]
    exact ih _ h2
section
variable {TT : List Cond} {cl : List vw_C} {X : XT} {mi : MI} {fr lo kc ks : Nat} {a : List Value} {M : mH} {P : Option Value → mH → Prop} {PX : String → mH → Prop}
theorem ev_of (hX : mj_XOK X) (hpl : plainName mi.1.cls = true) (hw : (lg_sl a).length ≤ mi.2.2.1) (k : LX TT cl X mi fr lo P PX kc ks 0 (lv_args 0 a) [] M) : EV TT cl X mi fr lo kc ks a M P PX := by
  intro l D sp as a1 sz hl ha
  obtain ⟨y, cc, maxL, ret, hh⟩ := mi
  have key : ∀ (p : Program) (e : Env) (s : State) (m : MethodId) (args : Array Value) (below : List Frame) (meth : Method) (c : Code) (s₁ : State) (ws : List Cond), (∀ w ∈ TT, w ∈ ws) →
      BodyLoose p l y (headSpec ws ({ frames := fr, cells := kc, slots := ks, locals := lo } : Room)) cc maxL ret e s m args below meth c s₁ → c.maxLocals = maxL → c.exceptionTable.toList = tableOf hh → va_Pc a1 (mj_B cl X D sp as M sz) args s →
      W p l e ({ frames := fr, cells := kc, slots := ks, locals := lo } : Room) s m args below meth c s.heap [] 0 0 (vx_MQ below (mj_Q cl P D sp as sz) (mj_QX cl PX D sp as sz) args s kc ks (mj_A as sz)) (entryFrame m args maxL) := by
    intro p e s m args below meth c s₁ ws hin B hml htab hv
    obtain ⟨rfl, hsz, hWR, hXs⟩ := hv
    have hts : ∀ w ∈ ws, w.before a1.toArray s = true := atoms_spec (ws := ws) B.pre
    have hl1 := lv_entry a1 (n := maxL) (by rw [mj_sl_len ha]; exact hw)
    rw [lg_entry_eq]
    refine k p l e ({ frames := fr, cells := kc, slots := ks, locals := lo } : Room) s m a1.toArray below meth c _ _ _ D sp (mj_A as sz) as ⟨B.exec, B.bytes, hml, findClass_of_methodNamed B.named, fun w h => hts w (hin w h), B.returns, B.notSynchronized, htab, (name_of_methodNamed B.named B.method).1, hl, Nat.le_refl _, Nat.le_refl _, fun q h => Or.inr (by rw [← hsz]; exact h), fun _ h => h, hXs, hX⟩ ?_ ?_ as (lv_args 0 a1) [] s.heap [] 0 0 _ mj_le_rf hWR va_S.rf hl1 (mj_args_al 0 ha) trivial (by show 0 + kc ≤ kc; omega) (by show 0 + ks ≤ ks; omega)
    · intro as1 M1 v w t h1 h2 h3 h4 h5 h6
      exact ⟨as1, M1, v, w, rfl, h1, h2, mj_WR_moved h3.alike h4, h5, h6⟩
    · intro as1 E M1 t h1 h3 h4 h5 h6
      exact ⟨as1, M1, h1, mj_WR_moved h3 h4, h5, h6⟩
  cases hh with
  | nil =>
    refine vx_ofW (cc := cc) (maxL := maxL) (ret := ret) hpl rfl ?_
    intro p e s m args below meth c s₁ B hml htab hv
    refine key p e s m args below meth c s₁ _ (fun w h => List.mem_cons_of_mem _ h) B hml ?_ hv
    cases ht : c.exceptionTable.toList with
    | nil => rfl
    | cons z zs => exact (htab z (by rw [ht]; exact List.mem_cons_self)).elim
  | cons h hs =>
    refine vx_ofWH (cc := cc) (maxL := maxL) (ret := ret) (hh := h :: hs) hpl rfl ?_
    intro p e s m args below meth c s₁ B hml hv
    refine key p e s m args below meth c s₁ _ (fun w h => List.mem_cons_of_mem _ h) B hml ?_ hv
    exact vx_table (x := y) B (atoms_spec (ws := mj_cw (y, cc, maxL, ret, h :: hs) :: TT) B.pre _ List.mem_cons_self)
end
theorem mj_met {l : Launch} {y : MethodName} {ws : List Cond} {rm : Room} {Pc : Array Value → State → Prop} {Qc : Array Value → State → Outcome → State → Prop} {XC : String → State → State → Prop} {mc ms : Nat} {free : Addr → Prop}
    (h : vx_Met l y ws rm Pc Qc XC mc ms free) (hX : ∀ E st t, ¬ XC E st t) : Met l y ws rm Pc Qc mc ms free := by
  intro p e ha hc hk s m args below hf happ hP hK
  obtain ⟨n, o, h1, h2, h3, h4⟩ := h p e ha hc hk s m args below hf happ hP hK
  refine ⟨n, o, h1, h2, h3, ?_⟩
  rcases h4 with h4 | ⟨q, -, E, ce, L, hx, -⟩
  · exact h4
  · exact (hX _ _ _ hx).elim
theorem mj_blind {cl : List vw_C} {X : XT} {D : va_G} {sp : Nat → Nat} {as : List Nat} {M : mH} {sz : Nat} {a1 : List Value} (hX : mj_XOK X) : FrameBlind (va_Pc a1 (mj_B cl X D sp as M sz)) := by
  intro a U g mk h
  obtain ⟨h1, h2, h3, h4⟩ := h
  exact ⟨h1, h2, mj_WR_moved (u := U) (U := U.calling g mk a) (Vm.Alike.refl U.vm) h3, hX.2.2.2 _ _ U (U.calling g mk a) _ rfl h4⟩
/-- the body of a method, with an exception of this class thrown at an instruction -/
def LT (TT : List Cond) (cl : List vw_C) (X : XT) (mi : MI) (fr lo : Nat) (P : Option Value → mH → Prop) (PX : String → mH → Prop) (kc ks pc : Nat) (L : List (Nat × Value)) (E : String) (M : mH) : Prop :=
  ∀ (p : Program) (l : Launch) (e : Env) (R : Room) (s : State) (m : MethodId) (args : Array Value) (below : List Frame) (meth : Method) (c : Code) (Qc : Array Value → State → Outcome → State → Prop) (XC : String → State → State → Prop) (free : Addr → Prop) (D : va_G) (sp : Nat → Nat) (A : Nat → Prop) (as0 : List Nat),
    mj_FX TT X mi fr lo p l R s m args meth c free sp A → mj_KQ cl P s args D sp A as0 Qc → mj_KX cl PX s D sp A as0 XC →
    ∀ (as : List Nat) (L1 : List (Nat × Value)) (S1 : List Value) (H : Heap) (locs : List Loc) (cells slots : Nat) (ls : Array Slot) (q : Nat) (ce : Cell),
      mj_le as0 as → mj_WR D cl sp A s as M H → va_S A s.heap H locs → lv_has ls mi.2.2.1 L1 → mj_al (mj_lr as sp) L L1 → cells + kc ≤ R.cells → slots + ks ≤ R.slots → H[q]? = some ce → ce.vm = .none → s.vm.findClass E = some ce.cls →
      vx_W p l e R s m args below meth c H locs cells slots (vx_MQ below Qc XC args s R.cells R.slots free) (F0 m pc ls S1) q
section
variable {TT : List Cond} {cl : List vw_C} {X : XT} {mi : MI} {fr lo : Nat} {P : Option Value → mH → Prop} {PX : String → mH → Prop} {kc ks pc : Nat} {L : List (Nat × Value)} {S : List Value} {M : mH} {E : String}
theorem lt_out (h : ∀ x ∈ tableOf mi.2.2.2.2, covers x pc = false) (hP : PX E M) : LT TT cl X mi fr lo P PX kc ks pc L E M := by
  intro p l e R s m args below meth c Qc XC free D sp A as0 F kq kx as L1 S1 H locs cells slots ls q ce h0 hW hS hl hL hc hs hq hv hcl
  refine vx_out (by rw [F.2.2.2.2.2.2.2.1]; exact h) F.2.2.2.2.2.2.1 hq hv hcl (fun t ht ha => kx as E M t hP ha (by rw [ht]; exact hW) (hS.F ht) h0) (fun z hz => F.2.2.2.2.2.2.2.2.2.2.2.2.2.1 _ (hS.2.2 z hz)) (by omega) (by omega)
/-- not caught here, past rows of the table that name other classes -/
theorem lt_outP (h : ∀ z ∈ tableOf mi.2.2.2.2, covers z pc = false ∨ (z.catchType ≠ 0 ∧ ∃ nm : String, Cond.classLink mi.1.cls z.catchType nm ∈ TT ∧ ∀ (A : Nat → Prop) (sp : Nat → Nat) (U : State) (H : Heap), X A sp U H → va_Nc E nm U)) (hP : PX E M) : LT TT cl X mi fr lo P PX kc ks pc L E M := by
  intro p l e R s m args below meth c Qc XC free D sp A as0 F kq kx as L1 S1 H locs cells slots ls q ce h0 hW hS hl hL hc hs hq hv hcl
  refine vx_outP F.2.2.2.1 F.2.2.2.2.2.2.1 (fun z hz => ?_) hq hv hcl (fun t ht ha => kx as E M t hP ha (by rw [ht]; exact hW) (hS.F ht) h0) (fun z hz => F.2.2.2.2.2.2.2.2.2.2.2.2.2.1 _ (hS.2.2 z hz)) (by omega) (by omega)
  rw [F.2.2.2.2.2.2.2.1] at hz
  rcases h z hz with h | ⟨h1, nm, h2, h3⟩
  · exact Or.inl h
  · exact Or.inr ⟨h1, nm, F.2.2.2.2.1 _ h2, h3 A sp s s.heap F.2.2.2.2.2.2.2.2.2.2.2.2.2.2.1⟩
/-- caught by the row x of the table -/
theorem lt_catch (pre : List ExceptionTableEntry) (x : ExceptionTableEntry) (suf : List ExceptionTableEntry) {name : String} (hsplit : tableOf mi.2.2.2.2 = pre ++ x :: suf)
    (hpass : ∀ z ∈ pre, covers z pc = false ∨ (z.catchType ≠ 0 ∧ ∃ nm : String, Cond.classLink mi.1.cls z.catchType nm ∈ TT ∧ ∀ (A : Nat → Prop) (sp : Nat → Nat) (U : State) (H : Heap), X A sp U H → va_Nc E nm U)) (hx : covers x pc = true) (h0 : x.catchType ≠ 0)
    (hlink : Cond.classLink mi.1.cls x.catchType name ∈ TT) (hcast : Cond.castable E name ∈ TT) (k : LX TT cl X mi fr lo P PX kc ks x.handlerPc L [.retAddr 0] M) : LT TT cl X mi fr lo P PX kc ks pc L E M := by
  intro p l e R s m args below meth c Qc XC free D sp A as0 F kq kx as L1 S1 H locs cells slots ls q ce h1 hW hS hl hL hc hs hq hv hcl
  refine vx_catch F.2.2.2.1 pre x suf (F.2.2.2.2.2.2.2.1.trans hsplit) (fun z hz => ?_) hx h0 (F.2.2.2.2.1 _ hlink) (F.2.2.2.2.1 _ hcast) hq hv hcl (k p l e R s m args below meth c Qc XC free D sp A as0 F kq kx as L1 _ H locs cells slots ls h1 hW hS hl hL ⟨⟨q, rfl, Or.inl rfl⟩, trivial⟩ hc hs)
  rcases hpass z hz with h | ⟨h1, nm, h2, h3⟩
  · exact Or.inl h
  · exact Or.inr ⟨h1, nm, F.2.2.2.2.1 _ h2, h3 A sp s s.heap F.2.2.2.2.2.2.2.2.2.2.2.2.2.2.1⟩
end
/-- behind a call -/
theorem mj_ret {p : Program} {l : Launch} {e : Env} {R : Room} {s : State} {m : MethodId} {args : Array Value} {below : List Frame} {meth : Method} {c : Code} {H : Heap} {locs : List Loc} {cells slots : Nat} {Q : State → Prop}
    {cl : List vw_C} {P1 : Option Value → mH → Prop} {PX1 : String → mH → Prop} {D : va_G} {sp : Nat → Nat} {A : Nat → Prop} {as : List Nat} {M : mH} {kc1 ks1 pc : Nat} {ls : Array Slot} {st0 rest : List Value} {a : Array Value}
    (hr : vx_Run p l e R s m args below meth c H locs cells slots kc1 ks1 (F0 m pc ls st0) rest (mj_Q cl P1 D sp as H.size a) (mj_QX cl PX1 D sp as H.size) (mj_A as H.size)) (hW : mj_WR D cl sp A s as M H) (hS : va_S A s.heap H locs) (hA : ∀ q : Nat, s.heap.size ≤ q → A q)
    (kx : ∀ (E : String) (M1 : mH) (as1 : List Nat) (ce : Cell) (q : Nat) (H1 : Heap) (locs1 : List Loc), PX1 E M1 → mj_le as as1 → mj_WR D cl sp A s as1 M1 H1 → va_S A s.heap H1 locs1 → H1[q]? = some ce → ce.vm = .none → s.vm.findClass E = some ce.cls → vx_W p l e R s m args below meth c H1 locs1 (cells + kc1) (slots + ks1) Q (F0 m pc ls rest) q)
    (kk : ∀ (v w : Option Value) (M1 : mH) (as1 : List Nat) (H1 : Heap) (locs1 : List Loc), P1 v M1 → mj_or as1 sp v w → mj_le as as1 → mj_WR D cl sp A s as1 M1 H1 → va_S A s.heap H1 locs1 → W p l e R s m args below meth c H1 locs1 (cells + kc1) (slots + ks1) Q (F0 m (pc + 3) ls (w.toList ++ rest))) : W p l e R s m args below meth c H locs cells slots Q (F0 m pc ls st0) := by
  have hf : ∀ q, mj_A as H.size q → A q := by
    intro q h
    rcases h with h | h
    · exact mj_WR_A hW h
    · exact hA q (Nat.le_trans hS.1 h)
  intro T hT X
  rcases hr T hT X with ⟨v, st₀, t, T', L, h0, X', hL, e1, e2, hq, st⟩ | ⟨q, st₀, t, T', L, E, ce, h0, X', hL, e1, e2, hq, hce, hcv, hcl, st⟩
  · obtain ⟨as1, M1, v1, w, ew, hP, hor, hWR, hF, hle⟩ := hq
    cases ew
    obtain ⟨k1, k2, k3⟩ := vx_keep h0 e1 hS (fun q _ h => hf q h) hf hL hF
    have hal : s.vm.Alike t.vm := by rw [← e2]; exact X'.warmed.alike
    have hWR1 : mj_WR D cl sp A s as1 M1 T'.heap := by
      rw [e1]
      exact mj_WR_moved hal.symm (mj_WR_weaken hWR (fun a ha => hf a (mj_WR_A hWR ha)))
    obtain ⟨t2, a1, b1⟩ := kk v1 v M1 as1 T'.heap (locs ++ L) hP hor hle hWR1 k3 T' rfl X'
    exact ⟨t2, st t2 a1, b1⟩
  · obtain ⟨as1, M1, hP, hWR, hF, hle⟩ := hq
    obtain ⟨k1, k2, k3⟩ := vx_keep h0 e1 hS (fun q _ h => hf q h) hf hL hF
    have hal : s.vm.Alike t.vm := by rw [← e2]; exact X'.warmed.alike
    have hWR1 : mj_WR D cl sp A s as1 M1 T'.heap := by
      rw [e1]
      exact mj_WR_moved hal.symm (mj_WR_weaken hWR (fun a ha => hf a (mj_WR_A hWR ha)))
    obtain ⟨t2, a1, b1⟩ := kx E M1 as1 ce q T'.heap (locs ++ L) hP hle hWR1 k3 (by rw [e1]; exact hce) hcv hcl T' rfl X'
    exact ⟨t2, st.trans a1, b1⟩
end MJ3
end
section
section MJ4
/-- what a call needs of the words: the callee is no method handle, has so many parameters, its class is ready, its code is in the list -/
def mj_CS (TT : List Cond) (ci : MI) (n : Nat) : Prop :=
  (∀ w ∈ TT, mj_pw w = true) ∧ mj_cw ci ∈ TT ∧ Cond.initialized ci.1.cls ∈ TT ∧ (ci.1.cls ≠ "java/lang/invoke/MethodHandle" ∧ ci.1.cls ≠ "java/lang/invoke/VarHandle") ∧ (parseMethodDescriptor ci.1.desc).map (fun d => d.parameters.length) = some n
section
variable {TT : List Cond} {cl : List vw_C} {X : XT} {mi ci : MI} {fr lo fr1 lo1 : Nat} {P P1 : Option Value → mH → Prop} {PX PX1 : String → mH → Prop} {kc ks kc1 ks1 pc index : Nat} {L : List (Nat × Value)} {S : List Value} {M : mH} {a : List Value} {v : Value}
theorem mj_CS_n {n : Nat} (h : mj_CS TT ci n) : ∀ sig, parseMethodDescriptor ci.1.desc = some sig → n = sig.parameters.length := fun sig hs => by
  have h2 := h.2.2.2.2
  rw [hs] at h2
  exact (Option.some.inj h2).symm
theorem mj_CS_ws {n : Nat} (h : mj_CS TT ci n) {s : State} {args : Array Value} (hts : ∀ w ∈ TT, w.before args s = true) : ∀ w ∈ mj_cw ci :: TT, ∀ (a' : Array Value) (U : State), s.WarmedH U.vm → w.before a' U = true := by
  intro w hw a' U hW
  rcases List.mem_cons.mp hw with rfl | hw
  · exact mj_pw_at hW (h.1 _ h.2.1) (hts _ h.2.1)
  · exact mj_pw_at hW (h.1 _ hw) (hts _ hw)
theorem mj_pre {l : Launch} {s : State} {D : va_G} {sp : Nat → Nat} {A : Nat → Prop} {as : List Nat} {H : Heap} {locs : List Loc} {a1 : List Value} (hX : mj_XOK X) (hXs : X A sp s s.heap) (hA : ∀ q : Nat, s.heap.size ≤ q → A q) (hW : mj_WR D cl sp A s as M H) (hS : va_S A s.heap H locs) :
    ∀ U : State, U.heap = H → s.WarmedH U.vm → va_Pc a1 (mj_B cl X D sp as M H.size) a1.toArray U := by
  intro U hU hWU
  refine ⟨rfl, by rw [hU], ?_, ?_⟩
  · rw [hU]
    exact mj_WR_weaken (mj_WR_moved hWU.alike hW) (fun a ha => Or.inl ha)
  · rw [hU]
    refine hX.2.1 A _ sp U H (fun q h => ?_) (hX.2.2.1 A sp s U H hWU (hX.1 A sp s s.heap H hXs hS.1 hS.2.1))
    rcases h with h | h
    · exact mj_WR_A hW h
    · exact hA q (Nat.le_trans hS.1 h)
/-- a static call of a method of the same class without a table of exceptions -/
theorem lx_static (d : decode mi.2.1 pc = .ok (.invokestatic index, 3)) (hc : mj_CS TT ci a.length) (hh : ci.2.2.2.2 = []) (hl1 : Cond.methodLink mi.1.cls index ci.1 ∈ TT) (hs1 : Cond.static ci.1 ∈ TT) (he : EV TT cl X ci fr1 lo1 kc1 ks1 a M P1 PX1)
    (hf : fr1 + 1 ≤ fr ∧ 8 + (ci.2.2.1 + 11) + lo1 ≤ lo) (hst : (S.map fun v => v.category).sum ≤ 8)
    (kx : ∀ (E : String) (M1 : mH), PX1 E M1 → LT TT cl X mi fr lo P PX kc ks pc L E M1)
    (kk : ∀ (v : Option Value) (M1 : mH), P1 v M1 → LX TT cl X mi fr lo P PX kc ks (pc + 3) L (v.toList ++ S) M1) : LX TT cl X mi fr lo P PX (kc1 + kc) (ks1 + ks) pc L (a.reverse ++ S) M := by
  intro p l e R s m args below meth c Qc XC free D sp A as0 F kq kx0 as L1 S1 H locs cells slots ls h0 hW hS hl hL hSt hcs hss
  obtain ⟨y, cc, maxL, ret, hh9⟩ := ci
  cases (show hh9 = [] from hh)
  obtain ⟨ar, rest, rfl, har, hrest⟩ := mj_al_split hSt
  have ha1 : mj_al (mj_vr as sp) a ar.reverse := by
    have := mj_al_rev har
    rwa [List.reverse_reverse] at this
  have hrev : ar ++ rest = (ar.reverse).reverse ++ rest := by rw [List.reverse_reverse]
  have hcode : (mj_cw (y, cc, maxL, ret, ([] : List (Nat × Nat × Nat × Nat)))) ∈ TT := hc.2.1
  have hr := vx_runS (e := e) (H := H) (locs := locs) (cells := cells) (slots := slots) (g := F0 m pc ls (ar ++ rest)) (rest := rest) (below := below) (meth := meth) (n := a.length) (As := ar.reverse) (maxL := maxL) (ret := ret) (bytes := cc) ⟨F.1, F.2.1, F.2.2.1, F.2.2.2.1, F.2.2.2.2.1⟩ (he l D sp as ar.reverse H.size F.2.2.2.2.2.2.2.2.2.1 ha1)
    ⟨⟨rfl, rfl, Nat.le_trans hf.1 F.2.2.2.2.2.2.2.2.2.2.1, Nat.le_trans hf.2 F.2.2.2.2.2.2.2.2.2.2.2.1, mj_CS_ws hc F.2.2.2.2.1, List.mem_cons_self, F.2.2.2.2.1 _ hcode, F.2.2.2.2.1 _ hc.2.2.1, hc.2.2.2.1, mj_CS_n hc, F.2.2.2.2.1 _ hl1⟩, F.2.2.2.2.1 _ hs1⟩
    ⟨mj_blind F.2.2.2.2.2.2.2.2.2.2.2.2.2.2.2, mj_pre (l := l) F.2.2.2.2.2.2.2.2.2.2.2.2.2.2.2 F.2.2.2.2.2.2.2.2.2.2.2.2.2.2.1 F.2.2.2.2.2.2.2.2.2.2.2.2.1 hW hS⟩ rfl (mj_al_len ha1) hl.1 hrev (by show 2 * 0 + _ ≤ 8; rw [mj_al_cat hrest]; omega) d ⟨by omega, by omega⟩
  refine mj_ret hr hW hS F.2.2.2.2.2.2.2.2.2.2.2.2.1 ?_ ?_
  · intro E M1 as1 ce q H1 locs1 h1 h2 h3 h4 h5 h6 h7
    exact kx E M1 h1 p l e R s m args below meth c Qc XC free D sp A as0 F kq kx0 as1 L1 rest H1 locs1 (cells + kc1) (slots + ks1) ls q ce (mj_le_tr h0 h2) h3 h4 hl (mj_al_mono (fun _ _ h => mj_lr_mono h2 h) hL) (by omega) (by omega) h5 h6 h7
  · intro v w M1 as1 H1 locs1 h1 h2 h3 h4 h5
    refine kk v M1 h1 p l e R s m args below meth c Qc XC free D sp A as0 F kq kx0 as1 L1 _ H1 locs1 (cells + kc1) (slots + ks1) ls (mj_le_tr h0 h3) h4 h5 hl (mj_al_mono (fun _ _ h => mj_lr_mono h3 h) hL) ?_ (by omega) (by omega)
    have hrest1 := mj_al_mono (fun _ _ h => mj_vr_mono h3 h) hrest
    cases v with
    | none => rw [show w = none from h2]; exact hrest1
    | some v => obtain ⟨w', rfl, hv⟩ := h2; exact ⟨hv, hrest1⟩
/-- ... of a method with a table of exceptions -/
theorem lx_staticX {hd : Nat × Nat × Nat × Nat} {tl : List (Nat × Nat × Nat × Nat)} (d : decode mi.2.1 pc = .ok (.invokestatic index, 3)) (hc : mj_CS TT ci a.length) (hh : ci.2.2.2.2 = hd :: tl) (hl1 : Cond.methodLink mi.1.cls index ci.1 ∈ TT) (hs1 : Cond.static ci.1 ∈ TT) (he : EV TT cl X ci fr1 lo1 kc1 ks1 a M P1 PX1)
    (hf : fr1 + 1 ≤ fr ∧ 8 + (ci.2.2.1 + 11) + lo1 ≤ lo) (hst : (S.map fun v => v.category).sum ≤ 8)
    (kx : ∀ (E : String) (M1 : mH), PX1 E M1 → LT TT cl X mi fr lo P PX kc ks pc L E M1)
    (kk : ∀ (v : Option Value) (M1 : mH), P1 v M1 → LX TT cl X mi fr lo P PX kc ks (pc + 3) L (v.toList ++ S) M1) : LX TT cl X mi fr lo P PX (kc1 + kc) (ks1 + ks) pc L (a.reverse ++ S) M := by
  intro p l e R s m args below meth c Qc XC free D sp A as0 F kq kx0 as L1 S1 H locs cells slots ls h0 hW hS hl hL hSt hcs hss
  obtain ⟨y, cc, maxL, ret, hh9⟩ := ci
  cases (show hh9 = hd :: tl from hh)
  obtain ⟨ar, rest, rfl, har, hrest⟩ := mj_al_split hSt
  have ha1 : mj_al (mj_vr as sp) a ar.reverse := by
    have := mj_al_rev har
    rwa [List.reverse_reverse] at this
  have hrev : ar ++ rest = (ar.reverse).reverse ++ rest := by rw [List.reverse_reverse]
  have hcode : (mj_cw (y, cc, maxL, ret, hd :: tl)) ∈ TT := hc.2.1
  have hr := vx_runSX (e := e) (H := H) (locs := locs) (cells := cells) (slots := slots) (g := F0 m pc ls (ar ++ rest)) (rest := rest) (below := below) (meth := meth) (n := a.length) (As := ar.reverse) (maxL := maxL) (ret := ret) (bytes := cc) (hh := hd :: tl) ⟨F.1, F.2.1, F.2.2.1, F.2.2.2.1, F.2.2.2.2.1⟩ (he l D sp as ar.reverse H.size F.2.2.2.2.2.2.2.2.2.1 ha1)
    ⟨⟨rfl, rfl, Nat.le_trans hf.1 F.2.2.2.2.2.2.2.2.2.2.1, Nat.le_trans hf.2 F.2.2.2.2.2.2.2.2.2.2.2.1, mj_CS_ws hc F.2.2.2.2.1, List.mem_cons_self⟩, F.2.2.2.2.1 _ hcode, F.2.2.2.2.1 _ hc.2.2.1, hc.2.2.2.1, mj_CS_n hc, F.2.2.2.2.1 _ hl1, F.2.2.2.2.1 _ hs1⟩
    ⟨mj_blind F.2.2.2.2.2.2.2.2.2.2.2.2.2.2.2, mj_pre (l := l) F.2.2.2.2.2.2.2.2.2.2.2.2.2.2.2 F.2.2.2.2.2.2.2.2.2.2.2.2.2.2.1 F.2.2.2.2.2.2.2.2.2.2.2.2.1 hW hS⟩ rfl (mj_al_len ha1) hl.1 hrev (by show 2 * 0 + _ ≤ 8; rw [mj_al_cat hrest]; omega) d ⟨by omega, by omega⟩
  refine mj_ret hr hW hS F.2.2.2.2.2.2.2.2.2.2.2.2.1 ?_ ?_
  · intro E M1 as1 ce q H1 locs1 h1 h2 h3 h4 h5 h6 h7
    exact kx E M1 h1 p l e R s m args below meth c Qc XC free D sp A as0 F kq kx0 as1 L1 rest H1 locs1 (cells + kc1) (slots + ks1) ls q ce (mj_le_tr h0 h2) h3 h4 hl (mj_al_mono (fun _ _ h => mj_lr_mono h2 h) hL) (by omega) (by omega) h5 h6 h7
  · intro v w M1 as1 H1 locs1 h1 h2 h3 h4 h5
    refine kk v M1 h1 p l e R s m args below meth c Qc XC free D sp A as0 F kq kx0 as1 L1 _ H1 locs1 (cells + kc1) (slots + ks1) ls (mj_le_tr h0 h3) h4 h5 hl (mj_al_mono (fun _ _ h => mj_lr_mono h3 h) hL) ?_ (by omega) (by omega)
    have hrest1 := mj_al_mono (fun _ _ h => mj_vr_mono h3 h) hrest
    cases v with
    | none => rw [show w = none from h2]; exact hrest1
    | some v => obtain ⟨w', rfl, hv⟩ := h2; exact ⟨hv, hrest1⟩
/-- from a Run that can't throw -/
theorem mj_vx {p : Program} {l : Launch} {e : Env} {R : Room} {s : State} {m : MethodId} {args : Array Value} {below : List Frame} {meth : Method} {c : Code} {H : Heap} {locs : List Loc} {cells slots mc ms : Nat} {g : JFrame} {rest : List Value} {Qa : State → Outcome → State → Prop} {XC : String → State → State → Prop} {free : Addr → Prop}
    (h : va_Run p l e R s m args below meth c H locs cells slots mc ms g rest Qa free) : vx_Run p l e R s m args below meth c H locs cells slots mc ms g rest Qa XC free := fun T hT X => Or.inl (h T hT X)
/-- a static call of a method of a nest mate, which doesn't throw -/
theorem lx_staticN {host : String} (d : decode mi.2.1 pc = .ok (.invokestatic index, 3)) (hc : mj_CS TT ci a.length) (hh : ci.2.2.2.2 = []) (hl1 : Cond.methodLinkNest mi.1.cls index ci.1 host ∈ TT) (hs1 : Cond.static ci.1 ∈ TT) (he : EV TT cl X ci fr1 lo1 kc1 ks1 a M P1 (fun _ _ => False))
    (hf : fr1 + 1 ≤ fr ∧ 8 + (ci.2.2.1 + 11) + lo1 ≤ lo) (hst : (S.map fun v => v.category).sum ≤ 8)
    (kk : ∀ (v : Option Value) (M1 : mH), P1 v M1 → LX TT cl X mi fr lo P PX kc ks (pc + 3) L (v.toList ++ S) M1) : LX TT cl X mi fr lo P PX (kc1 + kc) (ks1 + ks) pc L (a.reverse ++ S) M := by
  intro p l e R s m args below meth c Qc XC free D sp A as0 F kq kx0 as L1 S1 H locs cells slots ls h0 hW hS hl hL hSt hcs hss
  obtain ⟨y, cc, maxL, ret, hh9⟩ := ci
  cases (show hh9 = [] from hh)
  obtain ⟨ar, rest, rfl, har, hrest⟩ := mj_al_split hSt
  have ha1 : mj_al (mj_vr as sp) a ar.reverse := by
    have := mj_al_rev har
    rwa [List.reverse_reverse] at this
  have hrev : ar ++ rest = (ar.reverse).reverse ++ rest := by rw [List.reverse_reverse]
  have hcode : (mj_cw (y, cc, maxL, ret, ([] : List (Nat × Nat × Nat × Nat)))) ∈ TT := hc.2.1
  have hr := mj_vx (XC := mj_QX cl (fun _ _ => False) D sp as H.size) (va_runSN (e := e) (H := H) (locs := locs) (cells := cells) (slots := slots) (g := F0 m pc ls (ar ++ rest)) (rest := rest) (below := below) (meth := meth) (n := a.length) (As := ar.reverse) (maxL := maxL) (ret := ret) (bytes := cc) (host := host) ⟨F.1, F.2.1, F.2.2.1, F.2.2.2.1, F.2.2.2.2.1⟩ (mj_met (he l D sp as ar.reverse H.size F.2.2.2.2.2.2.2.2.2.1 ha1) (fun E st t h => by obtain ⟨_, _, h, _⟩ := h; exact h))
    ⟨⟨⟨rfl, rfl, Nat.le_trans hf.1 F.2.2.2.2.2.2.2.2.2.2.1, Nat.le_trans hf.2 F.2.2.2.2.2.2.2.2.2.2.2.1, mj_CS_ws hc F.2.2.2.2.1, List.mem_cons_self⟩, F.2.2.2.2.1 _ hcode, F.2.2.2.2.1 _ hc.2.2.1, hc.2.2.2.1, mj_CS_n hc, F.2.2.2.2.1 _ hl1⟩, F.2.2.2.2.1 _ hs1, trivial⟩
    ⟨mj_blind F.2.2.2.2.2.2.2.2.2.2.2.2.2.2.2, mj_pre (l := l) F.2.2.2.2.2.2.2.2.2.2.2.2.2.2.2 F.2.2.2.2.2.2.2.2.2.2.2.2.2.2.1 F.2.2.2.2.2.2.2.2.2.2.2.2.1 hW hS⟩ rfl (mj_al_len ha1) hl.1 hrev (by show 2 * 0 + _ ≤ 8; rw [mj_al_cat hrest]; omega) d ⟨by omega, by omega⟩)
  refine mj_ret hr hW hS F.2.2.2.2.2.2.2.2.2.2.2.2.1 (fun _ _ _ _ _ _ _ h => h.elim) ?_
  intro v w M1 as1 H1 locs1 h1 h2 h3 h4 h5
  refine kk v M1 h1 p l e R s m args below meth c Qc XC free D sp A as0 F kq kx0 as1 L1 _ H1 locs1 (cells + kc1) (slots + ks1) ls (mj_le_tr h0 h3) h4 h5 hl (mj_al_mono (fun _ _ h => mj_lr_mono h3 h) hL) ?_ (by omega) (by omega)
  have hrest1 := mj_al_mono (fun _ _ h => mj_vr_mono h3 h) hrest
  cases v with
  | none => rw [show w = none from h2]; exact hrest1
  | some v => obtain ⟨w', rfl, hv⟩ := h2; exact ⟨hv, hrest1⟩
/-- the receiver's cell -/
theorem mj_recv {D : va_G} {sp : Nat → Nat} {A : Nat → Prop} {s : State} {as : List Nat} {H : Heap} {i k b : Nat} {C : String} {T : u_T} {N : Nat} {fs : List Value} (hW : mj_WR D cl sp A s as M H) (hi : M[i]? = some (.inr (k, fs))) (hb : as[i]? = some b) (hk : cl[k]? = some (C, T, N)) : ∃ cellB : Cell, H[b]? = some cellB ∧ cellB.vm.isStatics = false ∧ s.vm.findClass C = some cellB.cls := by
  obtain ⟨ws, tys, hK, hP, hD, hr⟩ := hW
  obtain ⟨gs, h1, h2⟩ := mj_obj hr hb hi
  exact va_recv hK hP (ci := k) (q0 := i) hk h1
/-- a call of a method of an object, by its own class -/
theorem lx_virtual {i k N : Nat} {C : String} {T : u_T} {fs : List Value} (d : decode mi.2.1 pc = .ok (.invokevirtual index, 3)) (hc : mj_CS TT ci a.length) (hh : ci.2.2.2.2 = []) (hM : M[i]? = some (.inr (k, fs))) (hk : cl[k]? = some (C, T, N)) (hl1 : Cond.methodLink mi.1.cls index ci.1 ∈ TT) (hs1 : Cond.instanceMethod ci.1 ∈ TT) (hs2 : Cond.selects C ci.1 ci.1 ∈ TT)
    (he : EV TT cl X ci fr1 lo1 kc1 ks1 (.ref i :: a) M P1 PX1)
    (hf : fr1 + 1 ≤ fr ∧ 8 + (ci.2.2.1 + 11) + lo1 ≤ lo) (hst : (S.map fun v => v.category).sum ≤ 8)
    (kx : ∀ (E : String) (M1 : mH), PX1 E M1 → LT TT cl X mi fr lo P PX kc ks pc L E M1)
    (kk : ∀ (v : Option Value) (M1 : mH), P1 v M1 → LX TT cl X mi fr lo P PX kc ks (pc + 3) L (v.toList ++ S) M1) : LX TT cl X mi fr lo P PX (kc1 + kc) (ks1 + ks) pc L (a.reverse ++ .ref i :: S) M := by
  intro p l e R s m args below meth c Qc XC free D sp A as0 F kq kx0 as L1 S1 H locs cells slots ls h0 hW hS hl hL hSt hcs hss
  obtain ⟨y, cc, maxL, ret, hh9⟩ := ci
  cases (show hh9 = [] from hh)
  obtain ⟨ar, rest, rfl, har, hrest⟩ := mj_al_split hSt
  have hz9 := mj_al_cons hrest
  clear hrest
  obtain ⟨b9, rest, rfl, ⟨b, hb, rfl⟩, hrest⟩ := hz9
  have ha1 : mj_al (mj_vr as sp) a ar.reverse := by
    have := mj_al_rev har
    rwa [List.reverse_reverse] at this
  have hrev : ar ++ .ref b :: rest = (ar.reverse).reverse ++ .ref b :: rest := by rw [List.reverse_reverse]
  have hcode : (mj_cw (y, cc, maxL, ret, ([] : List (Nat × Nat × Nat × Nat)))) ∈ TT := hc.2.1
  have hr := vx_runV (e := e) (H := H) (locs := locs) (cells := cells) (slots := slots) (g := F0 m pc ls (ar ++ .ref b :: rest)) (rest := rest) (below := below) (meth := meth) (n := a.length) (As := ar.reverse) (b := b) (C := C) (maxL := maxL) (ret := ret) (bytes := cc) ⟨F.1, F.2.1, F.2.2.1, F.2.2.2.1, F.2.2.2.2.1⟩ (he l D sp as (.ref b :: ar.reverse) H.size F.2.2.2.2.2.2.2.2.2.1 ⟨⟨b, hb, rfl⟩, ha1⟩)
    ⟨⟨rfl, rfl, Nat.le_trans hf.1 F.2.2.2.2.2.2.2.2.2.2.1, Nat.le_trans hf.2 F.2.2.2.2.2.2.2.2.2.2.2.1, mj_CS_ws hc F.2.2.2.2.1, List.mem_cons_self, F.2.2.2.2.1 _ hcode, F.2.2.2.2.1 _ hc.2.2.1, hc.2.2.2.1, mj_CS_n hc, F.2.2.2.2.1 _ hl1⟩, F.2.2.2.2.1 _ hs1, F.2.2.2.2.1 _ hs2⟩
    ⟨mj_blind F.2.2.2.2.2.2.2.2.2.2.2.2.2.2.2, mj_recv hW hM hb hk, mj_pre (l := l) F.2.2.2.2.2.2.2.2.2.2.2.2.2.2.2 F.2.2.2.2.2.2.2.2.2.2.2.2.2.2.1 F.2.2.2.2.2.2.2.2.2.2.2.2.1 hW hS⟩ rfl (mj_al_len ha1) hl.1 hrev (by show 2 * 0 + _ ≤ 8; rw [mj_al_cat hrest]; omega) d ⟨by omega, by omega⟩
  refine mj_ret hr hW hS F.2.2.2.2.2.2.2.2.2.2.2.2.1 ?_ ?_
  · intro E M1 as1 ce q H1 locs1 h1 h2 h3 h4 h5 h6 h7
    exact kx E M1 h1 p l e R s m args below meth c Qc XC free D sp A as0 F kq kx0 as1 L1 rest H1 locs1 (cells + kc1) (slots + ks1) ls q ce (mj_le_tr h0 h2) h3 h4 hl (mj_al_mono (fun _ _ h => mj_lr_mono h2 h) hL) (by omega) (by omega) h5 h6 h7
  · intro v w M1 as1 H1 locs1 h1 h2 h3 h4 h5
    refine kk v M1 h1 p l e R s m args below meth c Qc XC free D sp A as0 F kq kx0 as1 L1 _ H1 locs1 (cells + kc1) (slots + ks1) ls (mj_le_tr h0 h3) h4 h5 hl (mj_al_mono (fun _ _ h => mj_lr_mono h3 h) hL) ?_ (by omega) (by omega)
    have hrest1 := mj_al_mono (fun _ _ h => mj_vr_mono h3 h) hrest
    cases v with
    | none => rw [show w = none from h2]; exact hrest1
    | some v => obtain ⟨w', rfl, hv⟩ := h2; exact ⟨hv, hrest1⟩
/-- a constructor, which doesn't throw -/
theorem lx_init {i : Nat} (d : decode mi.2.1 pc = .ok (.invokespecial index, 3)) (hc : mj_CS TT ci a.length) (hh : ci.2.2.2.2 = []) (hr0 : ci.2.2.2.1 = none) (hn : ci.1.name = "<init>") (hl1 : Cond.methodLink mi.1.cls index ci.1 ∈ TT) (hs1 : Cond.instanceMethod ci.1 ∈ TT)
    (he : EV TT cl X ci fr1 lo1 kc1 ks1 (.ref i :: a) M P1 (fun _ _ => False))
    (hf : fr1 + 1 ≤ fr ∧ 8 + (ci.2.2.1 + 11) + lo1 ≤ lo) (hst : (S.map fun v => v.category).sum ≤ 8)
    (kk : ∀ (v : Option Value) (M1 : mH), P1 v M1 → LX TT cl X mi fr lo P PX kc ks (pc + 3) L (v.toList ++ S) M1) : LX TT cl X mi fr lo P PX (kc1 + kc) (ks1 + ks) pc L (a.reverse ++ .ref i :: S) M := by
  intro p l e R s m args below meth c Qc XC free D sp A as0 F kq kx0 as L1 S1 H locs cells slots ls h0 hW hS hl hL hSt hcs hss
  obtain ⟨y, cc, maxL, ret, hh9⟩ := ci
  cases (show hh9 = [] from hh)
  cases (show ret = none from hr0)
  obtain ⟨ar, rest, rfl, har, hrest⟩ := mj_al_split hSt
  have hz9 := mj_al_cons hrest
  clear hrest
  obtain ⟨b9, rest, rfl, ⟨b, hb, rfl⟩, hrest⟩ := hz9
  have ha1 : mj_al (mj_vr as sp) a ar.reverse := by
    have := mj_al_rev har
    rwa [List.reverse_reverse] at this
  have hrev : ar ++ .ref b :: rest = (ar.reverse).reverse ++ .ref b :: rest := by rw [List.reverse_reverse]
  have hcode : (mj_cw (y, cc, maxL, (none : Option FieldType), ([] : List (Nat × Nat × Nat × Nat)))) ∈ TT := hc.2.1
  have hr := mj_vx (XC := mj_QX cl (fun _ _ => False) D sp as H.size) (va_runI (e := e) (H := H) (locs := locs) (cells := cells) (slots := slots) (g := F0 m pc ls (ar ++ .ref b :: rest)) (rest := rest) (below := below) (meth := meth) (n := a.length) (As := ar.reverse) (b := b) (maxL := maxL) (bytes := cc) ⟨F.1, F.2.1, F.2.2.1, F.2.2.2.1, F.2.2.2.2.1⟩ (mj_met (he l D sp as (.ref b :: ar.reverse) H.size F.2.2.2.2.2.2.2.2.2.1 ⟨⟨b, hb, rfl⟩, ha1⟩) (fun E st t h => by obtain ⟨_, _, h, _⟩ := h; exact h))
    ⟨⟨rfl, rfl, Nat.le_trans hf.1 F.2.2.2.2.2.2.2.2.2.2.1, Nat.le_trans hf.2 F.2.2.2.2.2.2.2.2.2.2.2.1, mj_CS_ws hc F.2.2.2.2.1, List.mem_cons_self, F.2.2.2.2.1 _ hcode, F.2.2.2.2.1 _ hc.2.2.1, hc.2.2.2.1, mj_CS_n hc, F.2.2.2.2.1 _ hl1⟩, hn, F.2.2.2.2.1 _ hs1⟩
    ⟨mj_blind F.2.2.2.2.2.2.2.2.2.2.2.2.2.2.2, mj_pre (l := l) F.2.2.2.2.2.2.2.2.2.2.2.2.2.2.2 F.2.2.2.2.2.2.2.2.2.2.2.2.2.2.1 F.2.2.2.2.2.2.2.2.2.2.2.2.1 hW hS⟩ rfl (mj_al_len ha1) hl.1 hrev (by show 2 * 0 + _ ≤ 8; rw [mj_al_cat hrest]; omega) d ⟨by omega, by omega⟩)
  refine mj_ret hr hW hS F.2.2.2.2.2.2.2.2.2.2.2.2.1 (fun _ _ _ _ _ _ _ h => h.elim) ?_
  intro v w M1 as1 H1 locs1 h1 h2 h3 h4 h5
  refine kk v M1 h1 p l e R s m args below meth c Qc XC free D sp A as0 F kq kx0 as1 L1 _ H1 locs1 (cells + kc1) (slots + ks1) ls (mj_le_tr h0 h3) h4 h5 hl (mj_al_mono (fun _ _ h => mj_lr_mono h3 h) hL) ?_ (by omega) (by omega)
  have hrest1 := mj_al_mono (fun _ _ h => mj_vr_mono h3 h) hrest
  cases v with
  | none => rw [show w = none from h2]; exact hrest1
  | some v => obtain ⟨w', rfl, hv⟩ := h2; exact ⟨hv, hrest1⟩
/-- Object's constructor -/
theorem lx_objInit {i : Nat} (d : decode mi.2.1 pc = .ok (.invokespecial index, 3)) (hl1 : Cond.methodLink mi.1.cls index Lib.objectInit ∈ TT) (hs1 : Cond.instanceMethod Lib.objectInit ∈ TT) (hcode : Cond.code Lib.objectInit ⟨#[0xb1]⟩ 1 none ∈ TT) (hf : 1 ≤ fr ∧ (S.map fun v => v.category).sum + 12 ≤ lo)
    (kk : LX TT cl X mi fr lo P PX kc ks (pc + 3) L S M) : LX TT cl X mi fr lo P PX kc ks pc L (.ref i :: S) M := by
  intro p l e R s m args below meth c Qc XC free D sp A as0 F kq kx0 as L1 S1 H locs cells slots ls h0 hW hS hl hL hSt hcs hss
  have hz9 := mj_al_cons hSt
  clear hSt
  obtain ⟨b9, rest, rfl, ⟨b, hb, rfl⟩, hrest⟩ := hz9
  refine W.objInit F.1 F.2.1 F.2.2.2.1 (F.2.2.2.2.1 _ hl1) (F.2.2.2.2.1 _ hs1) (F.2.2.2.2.1 _ hcode) rfl (by rw [F.2.2.1]; exact hl.1) rfl d (Nat.le_trans hf.1 F.2.2.2.2.2.2.2.2.2.2.1) (by show 2 * 0 + _ + 12 ≤ _; rw [mj_al_cat hrest]; have := F.2.2.2.2.2.2.2.2.2.2.2.1; omega) ?_
  exact kk p l e R s m args below meth c Qc XC free D sp A as0 F kq kx0 as L1 _ H locs cells slots ls h0 hW hS hl hL hrest hcs hss
end
end MJ4
end
section
section MJ5
theorem mj_qr_rf {as : List Nat} {sp : Nat → Nat} {x y : Option Nat} (h : mj_qr as x y) : mj_vr as sp (va_rf x) (va_rf y) := by
  cases x with
  | none => rw [show y = none from h]; rfl
  | some i => obtain ⟨a, h1, rfl⟩ := h; exact ⟨a, h1, rfl⟩
theorem mj_qr_up {as : List Nat} {f g : Nat → Option Nat} {j k b z : Nat} (hb : as[k]? = some b) (h : mj_qr as (f z) (g z)) : mj_qr as (va_up f j (some k) z) (va_up g j (some b) z) := by
  unfold va_up
  by_cases e : z = j
  · rw [if_pos e, if_pos e]; exact ⟨b, hb, rfl⟩
  · rw [if_neg e, if_neg e]; exact h
theorem mj_WR_ext {D : va_G} {cl : List vw_C} {sp : Nat → Nat} {A : Nat → Prop} {U : State} {as : List Nat} {M : mH} {H H1 : Heap} (hk : ∀ q : Nat, q < H.size → H1[q]? = H[q]?) (h : mj_WR D cl sp A U as M H) : mj_WR D cl sp A U as M H1 := by
  obtain ⟨ws, tys, h1, h2, h3, h4⟩ := h
  exact ⟨ws, tys, h1, fun k q hq => (h2 k q hq).kept (hk _ (vx_lt h2 hq)), h3, h4⟩
variable {TT : List Cond} {cl : List vw_C} {X : XT} {mi : MI} {fr lo : Nat} {P : Option Value → mH → Prop} {PX : String → mH → Prop} {kc ks pc : Nat} {L : List (Nat × Value)} {S : List Value} {M : mH}
theorem lx_iaload {i n : Nat} {j : Int32} {f : Nat → Int32} (d : decode mi.2.1 pc = .ok (.iaload, 1)) (hM : M[i]? = some (.inl (.int, n, .inl f))) (hin : vp_in j n) (kk : LX TT cl X mi fr lo P PX kc ks (pc + 1) L (.int (f j.toNatClampNeg) :: S) M) : LX TT cl X mi fr lo P PX kc ks pc L (.int j :: .ref i :: S) M := by
  intro p l e R s m args below meth c Qc XC free D sp A as0 F kq kx as L1 S1 H locs cells slots ls h0 hW hS hl hL hSt hc hs
  have h9 := mj_al_cons hSt
  clear hSt
  obtain ⟨_, S1, rfl, rfl, hSt⟩ := h9
  have h9 := mj_al_cons hSt
  clear hSt
  obtain ⟨_, S1, rfl, ⟨a, ha, rfl⟩, hSt⟩ := h9
  have hW0 := hW
  obtain ⟨ws, tys, hK, hP, hD, hr⟩ := hW
  obtain ⟨cA, t0, y, h1, h2, h3⟩ := mj_arr hr ha hM
  cases mj_ar_i h3
  exact va_iald F.1 F.2.1 hK hP i t0 h1 h2 hin d (kk p l e R s m args below meth c Qc XC free D sp A as0 F kq kx as L1 _ H locs cells slots ls h0 hW0 hS hl hL ⟨rfl, hSt⟩ hc hs)
theorem lx_zaload {i n : Nat} {j : Int32} {f : Nat → Int32} (d : decode mi.2.1 pc = .ok (.baload, 1)) (hM : M[i]? = some (.inl (.boolean, n, .inl f))) (hin : vp_in j n) (kk : LX TT cl X mi fr lo P PX kc ks (pc + 1) L (.int (f j.toNatClampNeg) :: S) M) : LX TT cl X mi fr lo P PX kc ks pc L (.int j :: .ref i :: S) M := by
  intro p l e R s m args below meth c Qc XC free D sp A as0 F kq kx as L1 S1 H locs cells slots ls h0 hW hS hl hL hSt hc hs
  have h9 := mj_al_cons hSt
  clear hSt
  obtain ⟨_, S1, rfl, rfl, hSt⟩ := h9
  have h9 := mj_al_cons hSt
  clear hSt
  obtain ⟨_, S1, rfl, ⟨a, ha, rfl⟩, hSt⟩ := h9
  have hW0 := hW
  obtain ⟨ws, tys, hK, hP, hD, hr⟩ := hW
  obtain ⟨cA, t0, y, h1, h2, h3⟩ := mj_arr hr ha hM
  cases mj_ar_i h3
  exact va_zald F.1 F.2.1 hK hP i t0 h1 h2 hin d (kk p l e R s m args below meth c Qc XC free D sp A as0 F kq kx as L1 _ H locs cells slots ls h0 hW0 hS hl hL ⟨rfl, hSt⟩ hc hs)
theorem lx_baload {i n : Nat} {j : Int32} {f : Nat → Int32} (d : decode mi.2.1 pc = .ok (.baload, 1)) (hM : M[i]? = some (.inl (.byte, n, .inl f))) (hin : vp_in j n) (kk : LX TT cl X mi fr lo P PX kc ks (pc + 1) L (.int (f j.toNatClampNeg) :: S) M) : LX TT cl X mi fr lo P PX kc ks pc L (.int j :: .ref i :: S) M := by
  intro p l e R s m args below meth c Qc XC free D sp A as0 F kq kx as L1 S1 H locs cells slots ls h0 hW hS hl hL hSt hc hs
  have h9 := mj_al_cons hSt
  clear hSt
  obtain ⟨_, S1, rfl, rfl, hSt⟩ := h9
  have h9 := mj_al_cons hSt
  clear hSt
  obtain ⟨_, S1, rfl, ⟨a, ha, rfl⟩, hSt⟩ := h9
  have hW0 := hW
  obtain ⟨ws, tys, hK, hP, hD, hr⟩ := hW
  obtain ⟨cA, t0, y, h1, h2, h3⟩ := mj_arr hr ha hM
  cases mj_ar_i h3
  exact va_bald F.1 F.2.1 hK hP i t0 h1 h2 hin d (kk p l e R s m args below meth c Qc XC free D sp A as0 F kq kx as L1 _ H locs cells slots ls h0 hW0 hS hl hL ⟨rfl, hSt⟩ hc hs)
theorem lx_caload {i n : Nat} {j : Int32} {f : Nat → Int32} (d : decode mi.2.1 pc = .ok (.caload, 1)) (hM : M[i]? = some (.inl (.char, n, .inl f))) (hin : vp_in j n) (kk : LX TT cl X mi fr lo P PX kc ks (pc + 1) L (.int (f j.toNatClampNeg) :: S) M) : LX TT cl X mi fr lo P PX kc ks pc L (.int j :: .ref i :: S) M := by
  intro p l e R s m args below meth c Qc XC free D sp A as0 F kq kx as L1 S1 H locs cells slots ls h0 hW hS hl hL hSt hc hs
  have h9 := mj_al_cons hSt
  clear hSt
  obtain ⟨_, S1, rfl, rfl, hSt⟩ := h9
  have h9 := mj_al_cons hSt
  clear hSt
  obtain ⟨_, S1, rfl, ⟨a, ha, rfl⟩, hSt⟩ := h9
  have hW0 := hW
  obtain ⟨ws, tys, hK, hP, hD, hr⟩ := hW
  obtain ⟨cA, t0, y, h1, h2, h3⟩ := mj_arr hr ha hM
  cases mj_ar_i h3
  exact va_cald F.1 F.2.1 hK hP i t0 h1 h2 hin d (kk p l e R s m args below meth c Qc XC free D sp A as0 F kq kx as L1 _ H locs cells slots ls h0 hW0 hS hl hL ⟨rfl, hSt⟩ hc hs)
theorem lx_laload {i n : Nat} {j : Int32} {f : Nat → Int64} (d : decode mi.2.1 pc = .ok (.laload, 1)) (hM : M[i]? = some (.inl (.long, n, .inr (.inl f)))) (hin : vp_in j n) (kk : LX TT cl X mi fr lo P PX kc ks (pc + 1) L (.long (f j.toNatClampNeg) :: S) M) : LX TT cl X mi fr lo P PX kc ks pc L (.int j :: .ref i :: S) M := by
  intro p l e R s m args below meth c Qc XC free D sp A as0 F kq kx as L1 S1 H locs cells slots ls h0 hW hS hl hL hSt hc hs
  have h9 := mj_al_cons hSt
  clear hSt
  obtain ⟨_, S1, rfl, rfl, hSt⟩ := h9
  have h9 := mj_al_cons hSt
  clear hSt
  obtain ⟨_, S1, rfl, ⟨a, ha, rfl⟩, hSt⟩ := h9
  have hW0 := hW
  obtain ⟨ws, tys, hK, hP, hD, hr⟩ := hW
  obtain ⟨cA, t0, y, h1, h2, h3⟩ := mj_arr hr ha hM
  cases mj_ar_l h3
  exact va_lald F.1 F.2.1 hK hP i t0 h1 h2 hin d (kk p l e R s m args below meth c Qc XC free D sp A as0 F kq kx as L1 _ H locs cells slots ls h0 hW0 hS hl hL ⟨rfl, hSt⟩ hc hs)
theorem lx_iastore {i n : Nat} {j : Int32} {x : Int32} {f : Nat → Int32} (d : decode mi.2.1 pc = .ok (.iastore, 1)) (hM : M[i]? = some (.inl (.int, n, .inl f))) (hin : vp_in j n) (kk : LX TT cl X mi fr lo P PX kc ks (pc + 1) L S (M.set i (.inl (.int, n, .inl (upd f j.toNatClampNeg x))))) : LX TT cl X mi fr lo P PX kc ks pc L (.int x :: .int j :: .ref i :: S) M := by
  intro p l e R s m args below meth c Qc XC free D sp A as0 F kq kx as L1 S1 H locs cells slots ls h0 hW hS hl hL hSt hc hs
  have h9 := mj_al_cons hSt
  clear hSt
  obtain ⟨_, S1, rfl, rfl, hSt⟩ := h9
  have h9 := mj_al_cons hSt
  clear hSt
  obtain ⟨_, S1, rfl, rfl, hSt⟩ := h9
  have h9 := mj_al_cons hSt
  clear hSt
  obtain ⟨_, S1, rfl, ⟨a, ha, rfl⟩, hSt⟩ := h9
  have hW0 := hW
  obtain ⟨ws, tys, hK, hP, hD, hr⟩ := hW
  obtain ⟨cA, t0, y, h1, h2, h3⟩ := mj_arr hr ha hM
  cases mj_ar_i h3
  exact va_iast F.1 F.2.1 hK hP hD hS i t0 h1 h2 hin d (fun H1 locs1 hP1 hD1 hS1 => kk p l e R s m args below meth c Qc XC free D sp A as0 F kq kx as L1 _ H1 locs1 cells slots ls h0 ⟨_, tys, hK, hP1, hD1, mj_hr_set hr ha ⟨⟨t0, h2⟩, rfl, rfl⟩⟩ hS1 hl hL hSt hc hs)
theorem lx_zastore {i n : Nat} {j : Int32} {x : Int32} {f : Nat → Int32} (d : decode mi.2.1 pc = .ok (.bastore, 1)) (hM : M[i]? = some (.inl (.boolean, n, .inl f))) (hin : vp_in j n) (kk : LX TT cl X mi fr lo P PX kc ks (pc + 1) L S (M.set i (.inl (.boolean, n, .inl (upd f j.toNatClampNeg (vp_nar .boolean x)))))) : LX TT cl X mi fr lo P PX kc ks pc L (.int x :: .int j :: .ref i :: S) M := by
  intro p l e R s m args below meth c Qc XC free D sp A as0 F kq kx as L1 S1 H locs cells slots ls h0 hW hS hl hL hSt hc hs
  have h9 := mj_al_cons hSt
  clear hSt
  obtain ⟨_, S1, rfl, rfl, hSt⟩ := h9
  have h9 := mj_al_cons hSt
  clear hSt
  obtain ⟨_, S1, rfl, rfl, hSt⟩ := h9
  have h9 := mj_al_cons hSt
  clear hSt
  obtain ⟨_, S1, rfl, ⟨a, ha, rfl⟩, hSt⟩ := h9
  have hW0 := hW
  obtain ⟨ws, tys, hK, hP, hD, hr⟩ := hW
  obtain ⟨cA, t0, y, h1, h2, h3⟩ := mj_arr hr ha hM
  cases mj_ar_i h3
  exact va_zast F.1 F.2.1 hK hP hD hS i t0 h1 h2 hin d (fun H1 locs1 hP1 hD1 hS1 => kk p l e R s m args below meth c Qc XC free D sp A as0 F kq kx as L1 _ H1 locs1 cells slots ls h0 ⟨_, tys, hK, hP1, hD1, mj_hr_set hr ha ⟨⟨t0, h2⟩, rfl, rfl⟩⟩ hS1 hl hL hSt hc hs)
theorem lx_bastore {i n : Nat} {j : Int32} {x : Int32} {f : Nat → Int32} (d : decode mi.2.1 pc = .ok (.bastore, 1)) (hM : M[i]? = some (.inl (.byte, n, .inl f))) (hin : vp_in j n) (kk : LX TT cl X mi fr lo P PX kc ks (pc + 1) L S (M.set i (.inl (.byte, n, .inl (upd f j.toNatClampNeg (vp_nar .byte x)))))) : LX TT cl X mi fr lo P PX kc ks pc L (.int x :: .int j :: .ref i :: S) M := by
  intro p l e R s m args below meth c Qc XC free D sp A as0 F kq kx as L1 S1 H locs cells slots ls h0 hW hS hl hL hSt hc hs
  have h9 := mj_al_cons hSt
  clear hSt
  obtain ⟨_, S1, rfl, rfl, hSt⟩ := h9
  have h9 := mj_al_cons hSt
  clear hSt
  obtain ⟨_, S1, rfl, rfl, hSt⟩ := h9
  have h9 := mj_al_cons hSt
  clear hSt
  obtain ⟨_, S1, rfl, ⟨a, ha, rfl⟩, hSt⟩ := h9
  have hW0 := hW
  obtain ⟨ws, tys, hK, hP, hD, hr⟩ := hW
  obtain ⟨cA, t0, y, h1, h2, h3⟩ := mj_arr hr ha hM
  cases mj_ar_i h3
  exact va_bast F.1 F.2.1 hK hP hD hS i t0 h1 h2 hin d (fun H1 locs1 hP1 hD1 hS1 => kk p l e R s m args below meth c Qc XC free D sp A as0 F kq kx as L1 _ H1 locs1 cells slots ls h0 ⟨_, tys, hK, hP1, hD1, mj_hr_set hr ha ⟨⟨t0, h2⟩, rfl, rfl⟩⟩ hS1 hl hL hSt hc hs)
theorem lx_castore {i n : Nat} {j : Int32} {x : Int32} {f : Nat → Int32} (d : decode mi.2.1 pc = .ok (.castore, 1)) (hM : M[i]? = some (.inl (.char, n, .inl f))) (hin : vp_in j n) (kk : LX TT cl X mi fr lo P PX kc ks (pc + 1) L S (M.set i (.inl (.char, n, .inl (upd f j.toNatClampNeg (vp_nar .char x)))))) : LX TT cl X mi fr lo P PX kc ks pc L (.int x :: .int j :: .ref i :: S) M := by
  intro p l e R s m args below meth c Qc XC free D sp A as0 F kq kx as L1 S1 H locs cells slots ls h0 hW hS hl hL hSt hc hs
  have h9 := mj_al_cons hSt
  clear hSt
  obtain ⟨_, S1, rfl, rfl, hSt⟩ := h9
  have h9 := mj_al_cons hSt
  clear hSt
  obtain ⟨_, S1, rfl, rfl, hSt⟩ := h9
  have h9 := mj_al_cons hSt
  clear hSt
  obtain ⟨_, S1, rfl, ⟨a, ha, rfl⟩, hSt⟩ := h9
  have hW0 := hW
  obtain ⟨ws, tys, hK, hP, hD, hr⟩ := hW
  obtain ⟨cA, t0, y, h1, h2, h3⟩ := mj_arr hr ha hM
  cases mj_ar_i h3
  exact va_cast F.1 F.2.1 hK hP hD hS i t0 h1 h2 hin d (fun H1 locs1 hP1 hD1 hS1 => kk p l e R s m args below meth c Qc XC free D sp A as0 F kq kx as L1 _ H1 locs1 cells slots ls h0 ⟨_, tys, hK, hP1, hD1, mj_hr_set hr ha ⟨⟨t0, h2⟩, rfl, rfl⟩⟩ hS1 hl hL hSt hc hs)
theorem lx_lastore {i n : Nat} {j : Int32} {x : Int64} {f : Nat → Int64} (d : decode mi.2.1 pc = .ok (.lastore, 1)) (hM : M[i]? = some (.inl (.long, n, .inr (.inl f)))) (hin : vp_in j n) (kk : LX TT cl X mi fr lo P PX kc ks (pc + 1) L S (M.set i (.inl (.long, n, .inr (.inl (vp_updL f j.toNatClampNeg x)))))) : LX TT cl X mi fr lo P PX kc ks pc L (.long x :: .int j :: .ref i :: S) M := by
  intro p l e R s m args below meth c Qc XC free D sp A as0 F kq kx as L1 S1 H locs cells slots ls h0 hW hS hl hL hSt hc hs
  have h9 := mj_al_cons hSt
  clear hSt
  obtain ⟨_, S1, rfl, rfl, hSt⟩ := h9
  have h9 := mj_al_cons hSt
  clear hSt
  obtain ⟨_, S1, rfl, rfl, hSt⟩ := h9
  have h9 := mj_al_cons hSt
  clear hSt
  obtain ⟨_, S1, rfl, ⟨a, ha, rfl⟩, hSt⟩ := h9
  have hW0 := hW
  obtain ⟨ws, tys, hK, hP, hD, hr⟩ := hW
  obtain ⟨cA, t0, y, h1, h2, h3⟩ := mj_arr hr ha hM
  cases mj_ar_l h3
  exact va_last F.1 F.2.1 hK hP hD hS i t0 h1 h2 hin d (fun H1 locs1 hP1 hD1 hS1 => kk p l e R s m args below meth c Qc XC free D sp A as0 F kq kx as L1 _ H1 locs1 cells slots ls h0 ⟨_, tys, hK, hP1, hD1, mj_hr_set hr ha ⟨⟨t0, h2⟩, rfl, rfl⟩⟩ hS1 hl hL hSt hc hs)
theorem lx_dastore {i n : Nat} {j : Int32} {x : UInt64} {f : Nat → UInt64} (d : decode mi.2.1 pc = .ok (.dastore, 1)) (hM : M[i]? = some (.inl (.double, n, .inr (.inr (.inr (.inl f)))))) (hin : vp_in j n) (kk : LX TT cl X mi fr lo P PX kc ks (pc + 1) L S (M.set i (.inl (.double, n, .inr (.inr (.inr (.inl (vf_upd f j.toNatClampNeg x)))))))) : LX TT cl X mi fr lo P PX kc ks pc L (.double x :: .int j :: .ref i :: S) M := by
  intro p l e R s m args below meth c Qc XC free D sp A as0 F kq kx as L1 S1 H locs cells slots ls h0 hW hS hl hL hSt hc hs
  have h9 := mj_al_cons hSt
  clear hSt
  obtain ⟨_, S1, rfl, rfl, hSt⟩ := h9
  have h9 := mj_al_cons hSt
  clear hSt
  obtain ⟨_, S1, rfl, rfl, hSt⟩ := h9
  have h9 := mj_al_cons hSt
  clear hSt
  obtain ⟨_, S1, rfl, ⟨a, ha, rfl⟩, hSt⟩ := h9
  have hW0 := hW
  obtain ⟨ws, tys, hK, hP, hD, hr⟩ := hW
  obtain ⟨cA, t0, y, h1, h2, h3⟩ := mj_arr hr ha hM
  cases mj_ar_d h3
  exact va_dast F.1 F.2.1 hK hP hD hS i t0 h1 h2 hin d (fun H1 locs1 hP1 hD1 hS1 => kk p l e R s m args below meth c Qc XC free D sp A as0 F kq kx as L1 _ H1 locs1 cells slots ls h0 ⟨_, tys, hK, hP1, hD1, mj_hr_set hr ha ⟨⟨t0, h2⟩, rfl, rfl⟩⟩ hS1 hl hL hSt hc hs)
theorem lx_arraylength {i : Nat} {ty : FieldType} {x : vp_A} (d : decode mi.2.1 pc = .ok (.arraylength, 1)) (hM : M[i]? = some (.inl (ty, x))) (kk : LX TT cl X mi fr lo P PX kc ks (pc + 1) L (.int (Int32.ofNat x.1) :: S) M) : LX TT cl X mi fr lo P PX kc ks pc L (.ref i :: S) M := by
  intro p l e R s m args below meth c Qc XC free D sp A as0 F kq kx as L1 S1 H locs cells slots ls h0 hW hS hl hL hSt hc hs
  have h9 := mj_al_cons hSt
  clear hSt
  obtain ⟨_, S1, rfl, ⟨a, ha, rfl⟩, hSt⟩ := h9
  have hW0 := hW
  obtain ⟨ws, tys, hK, hP, hD, hr⟩ := hW
  obtain ⟨cA, t0, y, h1, h2, h3⟩ := mj_arr hr ha hM
  exact va_alen F.1 F.2.1 hK hP i t0 h1 h2 (by rw [mj_ar_len h3]) d (kk p l e R s m args below meth c Qc XC free D sp A as0 F kq kx as L1 _ H locs cells slots ls h0 hW0 hS hl hL ⟨rfl, hSt⟩ hc hs)
theorem lx_newarray_int {n : Int32} {N9 kc ks : Nat} (d : decode mi.2.1 pc = .ok (.newarray .int, 2)) (ht : Cond.arrayClass .int ∈ TT) (hn : ¬ n < 0) (hN : n.toNatClampNeg = N9) (hb : N9 ≤ 67108864) (kk : LX TT cl X mi fr lo P PX kc ks (pc + 2) L (.ref M.length :: S) (M ++ [.inl (.int, (N9, .inl (fun _ => 0)))])) : LX TT cl X mi fr lo P PX (kc + 1) (ks + N9) pc L (.int n :: S) M := by
  intro p l e R s m args below meth c Qc XC free D sp A as0 F kq kx as L1 S1 H locs cells slots ls h0 hW hS hl hL hSt hc hs
  have h9 := mj_al_cons hSt
  clear hSt
  obtain ⟨_, S1, rfl, rfl, hSt⟩ := h9
  obtain ⟨ws, tys, hK, hP, hD, hr⟩ := hW
  refine va_newa (atype := .int) (a0 := (N9, .inl (fun _ => 0))) F.1 F.2.1 (F.2.2.2.2.1 _ ht) rfl hK hP hD hS F.2.2.2.2.2.2.2.2.2.2.2.2.1 (fun cA => rfl) hn hN (by show N9 * 4 ≤ _; omega) (by omega) (by omega) d (fun q cA H1 hK1 hP1 hD1 hS1 => ?_)
  have hle : mj_le as (as ++ [q]) := mj_le_app
  exact kk p l e R s m args below meth c Qc XC free D sp A as0 F kq kx (as ++ [q]) L1 _ H1 locs (cells + 1) (slots + N9) ls (mj_le_tr h0 hle) (mj_WR_push hK1 hP1 hD1 hr (fun i z hz => by rw [List.getElem?_append_left (List.getElem?_eq_some_iff.mp hz).1]; exact hz) ⟨⟨tys.length, by simp; rfl⟩, rfl, rfl⟩) hS1 hl (mj_al_mono (fun _ _ h => mj_lr_mono hle h) hL)
    ⟨⟨q, by rw [← hr.1]; simp, rfl⟩, mj_al_mono (fun _ _ h => mj_vr_mono hle h) hSt⟩ (by omega) (by omega)
theorem lx_newarray_boolean {n : Int32} {N9 kc ks : Nat} (d : decode mi.2.1 pc = .ok (.newarray .boolean, 2)) (ht : Cond.arrayClass .boolean ∈ TT) (hn : ¬ n < 0) (hN : n.toNatClampNeg = N9) (hb : N9 ≤ 67108864) (kk : LX TT cl X mi fr lo P PX kc ks (pc + 2) L (.ref M.length :: S) (M ++ [.inl (.boolean, (N9, .inl (fun _ => 0)))])) : LX TT cl X mi fr lo P PX (kc + 1) (ks + N9) pc L (.int n :: S) M := by
  intro p l e R s m args below meth c Qc XC free D sp A as0 F kq kx as L1 S1 H locs cells slots ls h0 hW hS hl hL hSt hc hs
  have h9 := mj_al_cons hSt
  clear hSt
  obtain ⟨_, S1, rfl, rfl, hSt⟩ := h9
  obtain ⟨ws, tys, hK, hP, hD, hr⟩ := hW
  refine va_newa (atype := .boolean) (a0 := (N9, .inl (fun _ => 0))) F.1 F.2.1 (F.2.2.2.2.1 _ ht) rfl hK hP hD hS F.2.2.2.2.2.2.2.2.2.2.2.2.1 (fun cA => rfl) hn hN (by show N9 * 1 ≤ _; omega) (by omega) (by omega) d (fun q cA H1 hK1 hP1 hD1 hS1 => ?_)
  have hle : mj_le as (as ++ [q]) := mj_le_app
  exact kk p l e R s m args below meth c Qc XC free D sp A as0 F kq kx (as ++ [q]) L1 _ H1 locs (cells + 1) (slots + N9) ls (mj_le_tr h0 hle) (mj_WR_push hK1 hP1 hD1 hr (fun i z hz => by rw [List.getElem?_append_left (List.getElem?_eq_some_iff.mp hz).1]; exact hz) ⟨⟨tys.length, by simp; rfl⟩, rfl, rfl⟩) hS1 hl (mj_al_mono (fun _ _ h => mj_lr_mono hle h) hL)
    ⟨⟨q, by rw [← hr.1]; simp, rfl⟩, mj_al_mono (fun _ _ h => mj_vr_mono hle h) hSt⟩ (by omega) (by omega)
theorem lx_newarray_char {n : Int32} {N9 kc ks : Nat} (d : decode mi.2.1 pc = .ok (.newarray .char, 2)) (ht : Cond.arrayClass .char ∈ TT) (hn : ¬ n < 0) (hN : n.toNatClampNeg = N9) (hb : N9 ≤ 67108864) (kk : LX TT cl X mi fr lo P PX kc ks (pc + 2) L (.ref M.length :: S) (M ++ [.inl (.char, (N9, .inl (fun _ => 0)))])) : LX TT cl X mi fr lo P PX (kc + 1) (ks + N9) pc L (.int n :: S) M := by
  intro p l e R s m args below meth c Qc XC free D sp A as0 F kq kx as L1 S1 H locs cells slots ls h0 hW hS hl hL hSt hc hs
  have h9 := mj_al_cons hSt
  clear hSt
  obtain ⟨_, S1, rfl, rfl, hSt⟩ := h9
  obtain ⟨ws, tys, hK, hP, hD, hr⟩ := hW
  refine va_newa (atype := .char) (a0 := (N9, .inl (fun _ => 0))) F.1 F.2.1 (F.2.2.2.2.1 _ ht) rfl hK hP hD hS F.2.2.2.2.2.2.2.2.2.2.2.2.1 (fun cA => rfl) hn hN (by show N9 * 2 ≤ _; omega) (by omega) (by omega) d (fun q cA H1 hK1 hP1 hD1 hS1 => ?_)
  have hle : mj_le as (as ++ [q]) := mj_le_app
  exact kk p l e R s m args below meth c Qc XC free D sp A as0 F kq kx (as ++ [q]) L1 _ H1 locs (cells + 1) (slots + N9) ls (mj_le_tr h0 hle) (mj_WR_push hK1 hP1 hD1 hr (fun i z hz => by rw [List.getElem?_append_left (List.getElem?_eq_some_iff.mp hz).1]; exact hz) ⟨⟨tys.length, by simp; rfl⟩, rfl, rfl⟩) hS1 hl (mj_al_mono (fun _ _ h => mj_lr_mono hle h) hL)
    ⟨⟨q, by rw [← hr.1]; simp, rfl⟩, mj_al_mono (fun _ _ h => mj_vr_mono hle h) hSt⟩ (by omega) (by omega)
theorem lx_newarray_byte {n : Int32} {N9 kc ks : Nat} (d : decode mi.2.1 pc = .ok (.newarray .byte, 2)) (ht : Cond.arrayClass .byte ∈ TT) (hn : ¬ n < 0) (hN : n.toNatClampNeg = N9) (hb : N9 ≤ 67108864) (kk : LX TT cl X mi fr lo P PX kc ks (pc + 2) L (.ref M.length :: S) (M ++ [.inl (.byte, (N9, .inl (fun _ => 0)))])) : LX TT cl X mi fr lo P PX (kc + 1) (ks + N9) pc L (.int n :: S) M := by
  intro p l e R s m args below meth c Qc XC free D sp A as0 F kq kx as L1 S1 H locs cells slots ls h0 hW hS hl hL hSt hc hs
  have h9 := mj_al_cons hSt
  clear hSt
  obtain ⟨_, S1, rfl, rfl, hSt⟩ := h9
  obtain ⟨ws, tys, hK, hP, hD, hr⟩ := hW
  refine va_newa (atype := .byte) (a0 := (N9, .inl (fun _ => 0))) F.1 F.2.1 (F.2.2.2.2.1 _ ht) rfl hK hP hD hS F.2.2.2.2.2.2.2.2.2.2.2.2.1 (fun cA => rfl) hn hN (by show N9 * 1 ≤ _; omega) (by omega) (by omega) d (fun q cA H1 hK1 hP1 hD1 hS1 => ?_)
  have hle : mj_le as (as ++ [q]) := mj_le_app
  exact kk p l e R s m args below meth c Qc XC free D sp A as0 F kq kx (as ++ [q]) L1 _ H1 locs (cells + 1) (slots + N9) ls (mj_le_tr h0 hle) (mj_WR_push hK1 hP1 hD1 hr (fun i z hz => by rw [List.getElem?_append_left (List.getElem?_eq_some_iff.mp hz).1]; exact hz) ⟨⟨tys.length, by simp; rfl⟩, rfl, rfl⟩) hS1 hl (mj_al_mono (fun _ _ h => mj_lr_mono hle h) hL)
    ⟨⟨q, by rw [← hr.1]; simp, rfl⟩, mj_al_mono (fun _ _ h => mj_vr_mono hle h) hSt⟩ (by omega) (by omega)
theorem lx_newarray_long {n : Int32} {N9 kc ks : Nat} (d : decode mi.2.1 pc = .ok (.newarray .long, 2)) (ht : Cond.arrayClass .long ∈ TT) (hn : ¬ n < 0) (hN : n.toNatClampNeg = N9) (hb : N9 ≤ 67108864) (kk : LX TT cl X mi fr lo P PX kc ks (pc + 2) L (.ref M.length :: S) (M ++ [.inl (.long, (N9, .inr (.inl (fun _ => 0))))])) : LX TT cl X mi fr lo P PX (kc + 1) (ks + N9) pc L (.int n :: S) M := by
  intro p l e R s m args below meth c Qc XC free D sp A as0 F kq kx as L1 S1 H locs cells slots ls h0 hW hS hl hL hSt hc hs
  have h9 := mj_al_cons hSt
  clear hSt
  obtain ⟨_, S1, rfl, rfl, hSt⟩ := h9
  obtain ⟨ws, tys, hK, hP, hD, hr⟩ := hW
  refine va_newa (atype := .long) (a0 := (N9, .inr (.inl (fun _ => 0)))) F.1 F.2.1 (F.2.2.2.2.1 _ ht) rfl hK hP hD hS F.2.2.2.2.2.2.2.2.2.2.2.2.1 (fun cA => rfl) hn hN (by show N9 * 8 ≤ _; omega) (by omega) (by omega) d (fun q cA H1 hK1 hP1 hD1 hS1 => ?_)
  have hle : mj_le as (as ++ [q]) := mj_le_app
  exact kk p l e R s m args below meth c Qc XC free D sp A as0 F kq kx (as ++ [q]) L1 _ H1 locs (cells + 1) (slots + N9) ls (mj_le_tr h0 hle) (mj_WR_push hK1 hP1 hD1 hr (fun i z hz => by rw [List.getElem?_append_left (List.getElem?_eq_some_iff.mp hz).1]; exact hz) ⟨⟨tys.length, by simp; rfl⟩, rfl, rfl⟩) hS1 hl (mj_al_mono (fun _ _ h => mj_lr_mono hle h) hL)
    ⟨⟨q, by rw [← hr.1]; simp, rfl⟩, mj_al_mono (fun _ _ h => mj_vr_mono hle h) hSt⟩ (by omega) (by omega)
theorem lx_newarray_double {n : Int32} {N9 kc ks : Nat} (d : decode mi.2.1 pc = .ok (.newarray .double, 2)) (ht : Cond.arrayClass .double ∈ TT) (hn : ¬ n < 0) (hN : n.toNatClampNeg = N9) (hb : N9 ≤ 67108864) (kk : LX TT cl X mi fr lo P PX kc ks (pc + 2) L (.ref M.length :: S) (M ++ [.inl (.double, (N9, .inr (.inr (.inr (.inl (fun _ => 0))))))])) : LX TT cl X mi fr lo P PX (kc + 1) (ks + N9) pc L (.int n :: S) M := by
  intro p l e R s m args below meth c Qc XC free D sp A as0 F kq kx as L1 S1 H locs cells slots ls h0 hW hS hl hL hSt hc hs
  have h9 := mj_al_cons hSt
  clear hSt
  obtain ⟨_, S1, rfl, rfl, hSt⟩ := h9
  obtain ⟨ws, tys, hK, hP, hD, hr⟩ := hW
  refine va_newa (atype := .double) (a0 := (N9, .inr (.inr (.inr (.inl (fun _ => 0)))))) F.1 F.2.1 (F.2.2.2.2.1 _ ht) rfl hK hP hD hS F.2.2.2.2.2.2.2.2.2.2.2.2.1 (fun cA => rfl) hn hN (by show N9 * 8 ≤ _; omega) (by omega) (by omega) d (fun q cA H1 hK1 hP1 hD1 hS1 => ?_)
  have hle : mj_le as (as ++ [q]) := mj_le_app
  exact kk p l e R s m args below meth c Qc XC free D sp A as0 F kq kx (as ++ [q]) L1 _ H1 locs (cells + 1) (slots + N9) ls (mj_le_tr h0 hle) (mj_WR_push hK1 hP1 hD1 hr (fun i z hz => by rw [List.getElem?_append_left (List.getElem?_eq_some_iff.mp hz).1]; exact hz) ⟨⟨tys.length, by simp; rfl⟩, rfl, rfl⟩) hS1 hl (mj_al_mono (fun _ _ h => mj_lr_mono hle h) hL)
    ⟨⟨q, by rw [← hr.1]; simp, rfl⟩, mj_al_mono (fun _ _ h => mj_vr_mono hle h) hSt⟩ (by omega) (by omega)
theorem lx_aaload {i n : Nat} {j : Int32} {C : String} {f : Nat → Option Nat} (d : decode mi.2.1 pc = .ok (.aaload, 1)) (hM : M[i]? = some (.inl (.object C, n, .inr (.inr (.inr (.inr f)))))) (hin : vp_in j n) (kk : LX TT cl X mi fr lo P PX kc ks (pc + 1) L (va_rf (f j.toNatClampNeg) :: S) M) : LX TT cl X mi fr lo P PX kc ks pc L (.int j :: .ref i :: S) M := by
  intro p l e R s m args below meth c Qc XC free D sp A as0 F kq kx as L1 S1 H locs cells slots ls h0 hW hS hl hL hSt hc hs
  have h9 := mj_al_cons hSt
  clear hSt
  obtain ⟨_, S1, rfl, rfl, hSt⟩ := h9
  have h9 := mj_al_cons hSt
  clear hSt
  obtain ⟨_, S1, rfl, ⟨a, ha, rfl⟩, hSt⟩ := h9
  have hW0 := hW
  obtain ⟨ws, tys, hK, hP, hD, hr⟩ := hW
  obtain ⟨cA, t0, y, h1, h2, h3⟩ := mj_arr hr ha hM
  obtain ⟨g, rfl, h4⟩ := mj_ar_q h3
  exact va_aldq F.1 F.2.1 hK hP i t0 h1 h2 hin d (kk p l e R s m args below meth c Qc XC free D sp A as0 F kq kx as L1 _ H locs cells slots ls h0 hW0 hS hl hL ⟨mj_qr_rf (h4 _), hSt⟩ hc hs)
theorem lx_aastore {i n k ci N9 : Nat} {j : Int32} {C : String} {T9 : u_T} {vs : List Value} {f : Nat → Option Nat} (d : decode mi.2.1 pc = .ok (.aastore, 1)) (hM : M[i]? = some (.inl (.object C, n, .inr (.inr (.inr (.inr f)))))) (hk : M[k]? = some (.inr (ci, vs))) (hcl : cl[ci]? = some (C, T9, N9)) (hin : vp_in j n) (kk : LX TT cl X mi fr lo P PX kc ks (pc + 1) L S (M.set i (.inl (.object C, n, .inr (.inr (.inr (.inr (va_up f j.toNatClampNeg (some k))))))))) : LX TT cl X mi fr lo P PX kc ks pc L (.ref k :: .int j :: .ref i :: S) M := by
  intro p l e R s m args below meth c Qc XC free D sp A as0 F kq kx as L1 S1 H locs cells slots ls h0 hW hS hl hL hSt hc hs
  have h9 := mj_al_cons hSt
  clear hSt
  obtain ⟨_, S1, rfl, ⟨b, hb, rfl⟩, hSt⟩ := h9
  have h9 := mj_al_cons hSt
  clear hSt
  obtain ⟨_, S1, rfl, rfl, hSt⟩ := h9
  have h9 := mj_al_cons hSt
  clear hSt
  obtain ⟨_, S1, rfl, ⟨a, ha, rfl⟩, hSt⟩ := h9
  have hW0 := hW
  obtain ⟨ws, tys, hK, hP, hD, hr⟩ := hW
  obtain ⟨cA, t0, y, h1, h2, h3⟩ := mj_arr hr ha hM
  obtain ⟨g, rfl, h4⟩ := mj_ar_q h3
  obtain ⟨gs, h5, h6⟩ := mj_obj hr hb hk
  exact va_astq F.1 F.2.1 hK hP hD hS i t0 k ci (r := (C, T9, N9)) h1 h2 h5 hcl hin d (fun H1 locs1 hP1 hD1 hS1 => kk p l e R s m args below meth c Qc XC free D sp A as0 F kq kx as L1 _ H1 locs1 cells slots ls h0 ⟨_, tys, hK, hP1, hD1, mj_hr_set hr ha ⟨⟨t0, h2⟩, rfl, fun z => mj_qr_up hb (h4 z)⟩⟩ hS1 hl hL hSt hc hs)
/-- what X has to give for throwing -/
def mj_XT (X : XT) : Prop := ∀ (A : Nat → Prop) (sp : Nat → Nat) (U : State) (H : Heap), X A sp U H → vx_Zq Bundle.tN "UNASSIGNED_STACK" Bundle.steD A U H ∧ vx_Zq Bundle.tN "SUPPRESSED_SENTINEL" Bundle.listD A U H
def mj_XS (X : XT) (own : String) (k : Nat) (tx : String) : Prop := ∀ (A : Nat → Prop) (sp : Nat → Nat) (U : State) (H : Heap), X A sp U H → ∃ a, vk_R own k tx a U
/-- throw new E("a text") -/
theorem lx_throw {cls text : String} {names : List String} {ik is ic kc ks : Nat} (hXT : mj_XT X) (hXS : mj_XS X mi.1.cls is text) (hcls : Bundle.fit cls = true) (hnames : ∀ n ∈ names, Bundle.fit n = true) (hk : Cond.classLink mi.1.cls ik cls ∈ TT) (hini : Cond.initialized cls ∈ TT) (hat : ∀ w ∈ vx_atS mi.1.cls ic cls names, w ∈ TT)
    (hgood : ∀ w ∈ Cond.classLink mi.1.cls ik cls :: Cond.initialized cls :: vx_atS mi.1.cls ic cls names, vx_ot w = true)
    (d0 : decode mi.2.1 pc = .ok (.new ik, 3)) (d3 : decode mi.2.1 (pc + 3) = .ok (.dup, 1)) (d4 : decode mi.2.1 (pc + 4) = .ok (.ldc is, 2)) (d6 : decode mi.2.1 (pc + 6) = .ok (.invokespecial ic, 3)) (d9 : decode mi.2.1 (pc + 9) = .ok (.athrow, 1))
    (hout : ∀ x ∈ tableOf mi.2.2.2.2, covers x (pc + 9) = false) (hf : names.length + 3 < fr ∧ (S.map fun v => v.category).sum + (13 * (names.length + 1) + 43) ≤ lo) (h : PX cls M) : LX TT cl X mi fr lo P PX (kc + 1) (ks + 6) pc L S M := by
  intro p l e R s m args below meth c Qc XC free D sp A as0 F kq kx as L1 S1 H locs cells slots ls h0 hW hS hl hL hSt hc hs
  have hXs := F.2.2.2.2.2.2.2.2.2.2.2.2.2.2.1
  obtain ⟨sa, hsa⟩ := hXS A sp s s.heap hXs
  obtain ⟨hU, hN⟩ := hXT A sp s s.heap hXs
  have hfr := F.2.2.2.2.2.2.2.2.2.2.1
  have hlo := F.2.2.2.2.2.2.2.2.2.2.2.1
  refine vx_throwS F.1 F.2.1 F.2.2.2.2.2.2.2.2.2.1 F.2.2.2.1 hcls hnames (F.2.2.2.2.1 _ hk) (F.2.2.2.2.1 _ hini) hsa (fun w hw => F.2.2.2.2.1 _ (hat w hw)) hgood hU hN hS (by rw [F.2.2.1]; exact hl.1) d0 d3 d4 d6 d9 (by rw [F.2.2.2.2.2.2.2.1]; exact hout) (by omega) (by rw [mj_al_cat hSt]; omega) (by omega) (by omega) F.2.2.2.2.2.2.1 (fun t ha h1 h2 => ?_) (fun z hz => F.2.2.2.2.2.2.2.2.2.2.2.2.2.1 _ (hS.2.2 z hz)) (by omega) (by omega)
  refine kx as cls M t h ha (mj_WR_ext h2 hW) ⟨Nat.le_trans hS.1 h1, fun q hq hA => ?_⟩ h0
  rw [h2 q (Nat.lt_of_lt_of_le hq hS.1)]
  exact hS.2.1 q hq hA
theorem lx_throwW {cls text : String} {names : List String} {ik is ic kc ks : Nat} (hXT : mj_XT X) (hXS : mj_XS X mi.1.cls is text) (hcls : Bundle.fit cls = true) (hnames : ∀ n ∈ names, Bundle.fit n = true) (hk : Cond.classLink mi.1.cls ik cls ∈ TT) (hini : Cond.initialized cls ∈ TT) (hat : ∀ w ∈ vx_atS mi.1.cls ic cls names, w ∈ TT)
    (hgood : ∀ w ∈ Cond.classLink mi.1.cls ik cls :: Cond.initialized cls :: vx_atS mi.1.cls ic cls names, vx_ot w = true)
    (d0 : decode mi.2.1 pc = .ok (.new ik, 3)) (d3 : decode mi.2.1 (pc + 3) = .ok (.dup, 1)) (d4 : decode mi.2.1 (pc + 4) = .ok (.ldc_w is, 3)) (d7 : decode mi.2.1 (pc + 7) = .ok (.invokespecial ic, 3)) (d10 : decode mi.2.1 (pc + 10) = .ok (.athrow, 1))
    (hout : ∀ x ∈ tableOf mi.2.2.2.2, covers x (pc + 10) = false) (hf : names.length + 3 < fr ∧ (S.map fun v => v.category).sum + (13 * (names.length + 1) + 43) ≤ lo) (h : PX cls M) : LX TT cl X mi fr lo P PX (kc + 1) (ks + 6) pc L S M := by
  intro p l e R s m args below meth c Qc XC free D sp A as0 F kq kx as L1 S1 H locs cells slots ls h0 hW hS hl hL hSt hc hs
  have hXs := F.2.2.2.2.2.2.2.2.2.2.2.2.2.2.1
  obtain ⟨sa, hsa⟩ := hXS A sp s s.heap hXs
  obtain ⟨hU, hN⟩ := hXT A sp s s.heap hXs
  have hfr := F.2.2.2.2.2.2.2.2.2.2.1
  have hlo := F.2.2.2.2.2.2.2.2.2.2.2.1
  refine vx_throwSW F.1 F.2.1 F.2.2.2.2.2.2.2.2.2.1 F.2.2.2.1 hcls hnames (F.2.2.2.2.1 _ hk) (F.2.2.2.2.1 _ hini) hsa (fun w hw => F.2.2.2.2.1 _ (hat w hw)) hgood hU hN hS (by rw [F.2.2.1]; exact hl.1) d0 d3 d4 d7 d10 (by rw [F.2.2.2.2.2.2.2.1]; exact hout) (by omega) (by rw [mj_al_cat hSt]; omega) (by omega) (by omega) F.2.2.2.2.2.2.1 (fun t ha h1 h2 => ?_) (fun z hz => F.2.2.2.2.2.2.2.2.2.2.2.2.2.1 _ (hS.2.2 z hz)) (by omega) (by omega)
  refine kx as cls M t h ha (mj_WR_ext h2 hW) ⟨Nat.le_trans hS.1 h1, fun q hq hA => ?_⟩ h0
  rw [h2 q (Nat.lt_of_lt_of_le hq hS.1)]
  exact hS.2.1 q hq hA
end MJ5
end
section
section MJ6
variable {TT : List Cond} {cl : List vw_C} {X : XT} {mi : MI} {fr lo : Nat} {P : Option Value → mH → Prop} {PX : String → mH → Prop} {kc ks pc : Nat} {L : List (Nat × Value)} {S : List Value} {M : mH}
/-- the known reference k is that static -/
def mj_XZ (X : XT) (k : Nat) (C n d : String) : Prop := ∀ (A : Nat → Prop) (sp : Nat → Nat) (U : State) (H : Heap), X A sp U H → va_Z C n d (.ref (sp k)) A U H
/-- the known reference k is a row of longs, of ints that is never written -/
def mj_XA (X : XT) (k : Nat) (ty : FieldType) (N : Nat) (f : Nat → Value) : Prop := ∀ (A : Nat → Prop) (sp : Nat → Nat) (U : State) (H : Heap), X A sp U H → va_T ty (sp k) N f A U H
/-- ... of ints, the script -/
def mj_XI (X : XT) (k L9 : Nat) (xs : Nat → Int32) : Prop := ∀ (A : Nat → Prop) (sp : Nat → Nat) (U : State) (H : Heap), X A sp U H → va_X (sp k) L9 xs U H ∧ ¬ A (sp k)
theorem lx_getstatic {index k : Nat} {C n ds : String} (d : decode mi.2.1 pc = .ok (.getstatic index, 3)) (h0k : ¬ k = 0) (hX : mj_XZ X k C n ds) (hl1 : Cond.fieldLink mi.1.cls index C n ds ∈ TT) (kk : LX TT cl X mi fr lo P PX kc ks (pc + 3) L (.retAddr k :: S) M) : LX TT cl X mi fr lo P PX kc ks pc L S M := by
  intro p l e R s m args below meth c Qc XC free D sp A as0 F kq kx as L1 S1 H locs cells slots ls h0 hW hS hl hL hSt hc hs
  have hXs := F.2.2.2.2.2.2.2.2.2.2.2.2.2.2.1
  exact va_gets F.1 F.2.1 (hX A sp s s.heap hXs) hS F.2.2.2.1 (F.2.2.2.2.1 _ hl1) (fun _ h => h) d (kk p l e R s m args below meth c Qc XC free D sp A as0 F kq kx as L1 _ H locs cells slots ls h0 hW hS hl hL ⟨⟨sp k, rfl, Or.inr rfl⟩, hSt⟩ hc hs)
theorem mj_rk {as : List Nat} {sp : Nat → Nat} {k : Nat} {w : Value} (h0k : ¬ k = 0) (h : mj_vr as sp (.retAddr k) w) : w = .ref (sp k) := by
  obtain ⟨a, rfl, h | h⟩ := h
  · exact absurd h h0k
  · rw [h]
theorem lx_sarraylength {k N : Nat} {ty : FieldType} {f : Nat → Value} (d : decode mi.2.1 pc = .ok (.arraylength, 1)) (h0k : ¬ k = 0) (hX : mj_XA X k ty N f) (kk : LX TT cl X mi fr lo P PX kc ks (pc + 1) L (.int (Int32.ofNat N) :: S) M) : LX TT cl X mi fr lo P PX kc ks pc L (.retAddr k :: S) M := by
  intro p l e R s m args below meth c Qc XC free D sp A as0 F kq kx as L1 S1 H locs cells slots ls h0 hW hS hl hL hSt hc hs
  have hXs := F.2.2.2.2.2.2.2.2.2.2.2.2.2.2.1
  have h9 := mj_al_cons hSt
  clear hSt
  obtain ⟨w, S1, rfl, wr, hSt⟩ := h9
  rw [mj_rk h0k wr]
  exact va_tlen F.1 F.2.1 (hX A sp s s.heap hXs) hS rfl d (kk p l e R s m args below meth c Qc XC free D sp A as0 F kq kx as L1 _ H locs cells slots ls h0 hW hS hl hL ⟨rfl, hSt⟩ hc hs)
theorem lx_slaload {k N : Nat} {j : Int32} {f : Nat → Value} {x : Int64} (d : decode mi.2.1 pc = .ok (.laload, 1)) (h0k : ¬ k = 0) (hX : mj_XA X k .long N f) (hin : vp_in j N) (hf : f j.toNatClampNeg = .long x) (kk : LX TT cl X mi fr lo P PX kc ks (pc + 1) L (.long x :: S) M) : LX TT cl X mi fr lo P PX kc ks pc L (.int j :: .retAddr k :: S) M := by
  intro p l e R s m args below meth c Qc XC free D sp A as0 F kq kx as L1 S1 H locs cells slots ls h0 hW hS hl hL hSt hc hs
  have hXs := F.2.2.2.2.2.2.2.2.2.2.2.2.2.2.1
  have h9 := mj_al_cons hSt
  clear hSt
  obtain ⟨w, S1, rfl, rfl, hSt⟩ := h9
  have h9 := mj_al_cons hSt
  clear hSt
  obtain ⟨w, S1, rfl, wr, hSt⟩ := h9
  rw [mj_rk h0k wr]
  exact va_tl F.1 F.2.1 (hX A sp s s.heap hXs) hS hin hf d (kk p l e R s m args below meth c Qc XC free D sp A as0 F kq kx as L1 _ H locs cells slots ls h0 hW hS hl hL ⟨rfl, hSt⟩ hc hs)
theorem lx_xlen {k L9 : Nat} {xs : Nat → Int32} (d : decode mi.2.1 pc = .ok (.arraylength, 1)) (h0k : ¬ k = 0) (hX : mj_XI X k L9 xs) (kk : LX TT cl X mi fr lo P PX kc ks (pc + 1) L (.int (Int32.ofNat L9) :: S) M) : LX TT cl X mi fr lo P PX kc ks pc L (.retAddr k :: S) M := by
  intro p l e R s m args below meth c Qc XC free D sp A as0 F kq kx as L1 S1 H locs cells slots ls h0 hW hS hl hL hSt hc hs
  obtain ⟨hx1, hx2⟩ := hX A sp s s.heap F.2.2.2.2.2.2.2.2.2.2.2.2.2.2.1
  have h9 := mj_al_cons hSt
  clear hSt
  obtain ⟨w, S1, rfl, wr, hSt⟩ := h9
  rw [mj_rk h0k wr]
  have hlt : sp k < s.heap.size := by obtain ⟨z, h, -⟩ := hx1; exact (Array.getElem?_eq_some_iff.mp h).1
  exact va_slen F.1 F.2.1 hx1 hlt hx2 hS d (kk p l e R s m args below meth c Qc XC free D sp A as0 F kq kx as L1 _ H locs cells slots ls h0 hW hS hl hL ⟨rfl, hSt⟩ hc hs)
theorem lx_xload {k L9 : Nat} {xs : Nat → Int32} {j : Int32} (d : decode mi.2.1 pc = .ok (.iaload, 1)) (h0k : ¬ k = 0) (hX : mj_XI X k L9 xs) (hin : vp_in j L9) (kk : LX TT cl X mi fr lo P PX kc ks (pc + 1) L (.int (xs j.toNatClampNeg) :: S) M) : LX TT cl X mi fr lo P PX kc ks pc L (.int j :: .retAddr k :: S) M := by
  intro p l e R s m args below meth c Qc XC free D sp A as0 F kq kx as L1 S1 H locs cells slots ls h0 hW hS hl hL hSt hc hs
  obtain ⟨hx1, hx2⟩ := hX A sp s s.heap F.2.2.2.2.2.2.2.2.2.2.2.2.2.2.1
  have h9 := mj_al_cons hSt
  clear hSt
  obtain ⟨w, S1, rfl, rfl, hSt⟩ := h9
  have h9 := mj_al_cons hSt
  clear hSt
  obtain ⟨w, S1, rfl, wr, hSt⟩ := h9
  rw [mj_rk h0k wr]
  have hlt : sp k < s.heap.size := by obtain ⟨z, h, -⟩ := hx1; exact (Array.getElem?_eq_some_iff.mp h).1
  exact va_sld F.1 F.2.1 hx1 hlt hx2 hS hin d (kk p l e R s m args below meth c Qc XC free D sp A as0 F kq kx as L1 _ H locs cells slots ls h0 hW hS hl hL ⟨rfl, hSt⟩ hc hs)
/-- numbers of the pool -/
theorem lx_ldc {index : Nat} {v : Int32} (d : decode mi.2.1 pc = .ok (.ldc index, 2)) (hc9 : Cond.constant mi.1.cls index v ∈ TT) (kk : LX TT cl X mi fr lo P PX kc ks (pc + 2) L (.int v :: S) M) : LX TT cl X mi fr lo P PX kc ks pc L S M := by
  intro p l e R s m args below meth c Qc XC free D sp A as0 F kq kx as L1 S1 H locs cells slots ls h0 hW hS hl hL hSt hc hs
  exact lv_ldc F.1 F.2.1 F.2.2.2.1 (F.2.2.2.2.1 _ hc9) d (kk p l e R s m args below meth c Qc XC free D sp A as0 F kq kx as L1 _ H locs cells slots ls h0 hW hS hl hL ⟨rfl, hSt⟩ hc hs)
theorem lx_ldcw {index : Nat} {v : Int32} (d : decode mi.2.1 pc = .ok (.ldc_w index, 3)) (hc9 : Cond.constant mi.1.cls index v ∈ TT) (kk : LX TT cl X mi fr lo P PX kc ks (pc + 3) L (.int v :: S) M) : LX TT cl X mi fr lo P PX kc ks pc L S M := by
  intro p l e R s m args below meth c Qc XC free D sp A as0 F kq kx as L1 S1 H locs cells slots ls h0 hW hS hl hL hSt hc hs
  exact lv_ldcw F.1 F.2.1 F.2.2.2.1 (F.2.2.2.2.1 _ hc9) d (kk p l e R s m args below meth c Qc XC free D sp A as0 F kq kx as L1 _ H locs cells slots ls h0 hW hS hl hL ⟨rfl, hSt⟩ hc hs)
theorem lx_ldc2 {index : Nat} {v : Int64} (d : decode mi.2.1 pc = .ok (.ldc2_w index, 3)) (hc9 : Cond.constantLong mi.1.cls index v ∈ TT) (kk : LX TT cl X mi fr lo P PX kc ks (pc + 3) L (.long v :: S) M) : LX TT cl X mi fr lo P PX kc ks pc L S M := by
  intro p l e R s m args below meth c Qc XC free D sp A as0 F kq kx as L1 S1 H locs cells slots ls h0 hW hS hl hL hSt hc hs
  exact lv_ldc2 F.1 F.2.1 F.2.2.2.1 (F.2.2.2.2.1 _ hc9) d (kk p l e R s m args below meth c Qc XC free D sp A as0 F kq kx as L1 _ H locs cells slots ls h0 hW hS hl hL ⟨rfl, hSt⟩ hc hs)
end MJ6
end
section
section SX1
/-- a value with symbols: a value, or the symbol k as an int, or as a long -/
abbrev sV : Type := Value ⊕ (Bool × Nat)
/-- what is known of a symbol: between, and not one of -/
abbrev sB : Type := Int × Int × List Int
abbrev sG : Type := List sB
/-- a cell with symbols: an object, or an array: type, length, kind of its elements (0 int, 1 long, 2 double, 3 reference), what was stored, the last one first -/
abbrev sE : Type := (Nat × List sV) ⊕ (FieldType × Nat × Nat × List (Nat × sV))
abbrev sC : Type := sG × Nat × List (Nat × sV) × List sV × List sE
abbrev sI : Type := Nat × Nat × Nat × Nat × FieldType × List Value
abbrev sF : Type := sG × (Option sV ⊕ Nat) × List sE
abbrev sR : Type := List sF × Nat × Nat
def sd (ρ : Nat → Int32) (v : sV) : Value := match v with
  | .inl v => v
  | .inr (false, k) => .int (ρ k)
  | .inr (true, k) => .long (ρ k).toInt64
def scat (v : sV) : Nat := match v with
  | .inl v => v.category
  | .inr (false, _) => 1
  | .inr (true, _) => 2
theorem scat_eq {ρ : Nat → Int32} {v : sV} : (sd ρ v).category = scat v := by
  rcases v with v | ⟨_ | _, k⟩ <;> rfl
def sIn (b : sB) (x : Int) : Prop := b.1 ≤ x ∧ x ≤ b.2.1 ∧ ∀ e ∈ b.2.2, x ≠ e
def sSat (ρ : Nat → Int32) (G : sG) : Prop := ∀ (k : Nat) (b : sB), G[k]? = some b → sIn b (ρ k).toInt
theorem sSat_set {ρ : Nat → Int32} {G : sG} {k : Nat} {b : sB} (h : sSat ρ G) (hb : sIn b (ρ k).toInt) : sSat ρ (G.set k b) := by
  intro j c hj
  rw [List.getElem?_set] at hj
  split at hj
  · rename_i e
    subst e
    split at hj
    · cases hj; exact hb
    · cases hj
  · exact h j c hj
/-- an int told, or the few that it may be -/
def sconc (lim : Int) (G : sG) (v : sV) : Option (List (Int32 × sG)) := match v with
  | .inl (.int x) => some [(x, G)]
  | .inr (false, k) => match G[k]? with
    | none => none
    | some b => if b.2.1 - b.1 ≤ lim then some (((List.range (b.2.1 - b.1 + 1).toNat).filter (fun j : Nat => !(b.2.2.contains (b.1 + (j : Int))))).map (fun j : Nat => (Int32.ofInt (b.1 + (j : Int)), G.set k (b.1 + (j : Int), b.1 + (j : Int), [])))) else none
  | _ => none
theorem sconc_ok {ρ : Nat → Int32} {lim : Int} {G : sG} {v : sV} {l : List (Int32 × sG)} (hG : sSat ρ G) (h : sconc lim G v = some l) : ∃ q, q ∈ l ∧ sSat ρ q.2 ∧ sd ρ v = .int q.1 := by
  rcases v with v | ⟨_ | _, k⟩
  · cases v with
    | int x => cases h; exact ⟨_, List.mem_singleton.mpr rfl, hG, rfl⟩
    | long x => cases h
    | float x => cases h
    | double x => cases h
    | null => cases h
    | ref x => cases h
    | retAddr x => cases h
  · unfold sconc at h
    dsimp only at h
    cases hk : G[k]? with
    | none => rw [hk] at h; cases h
    | some b =>
      rw [hk] at h
      dsimp only at h
      split at h
      · cases h
        obtain ⟨h1, h2, h3⟩ := hG k b hk
        have e1 : b.1 + (((ρ k).toInt - b.1).toNat : Int) = (ρ k).toInt := by omega
        refine ⟨((ρ k), G.set k ((ρ k).toInt, (ρ k).toInt, [])), List.mem_map.mpr ⟨((ρ k).toInt - b.1).toNat, List.mem_filter.mpr ⟨List.mem_range.mpr (by omega), ?_⟩, ?_⟩, sSat_set hG ⟨Int.le_refl _, Int.le_refl _, fun e he => by cases he⟩, rfl⟩
        · rw [e1]
          simp only [Bool.not_eq_true', List.contains_eq_mem, decide_eq_false_iff_not]
          exact fun q => h3 _ q rfl
        · rw [e1, Int32.ofInt_toInt]
      · cases h
  · cases h
def scH (op : ClassFile.Cond) (x y : Int) : Bool := match op with
  | .eq => decide (x = y)
  | .ne => !decide (x = y)
  | .lt => decide (x < y)
  | .ge => decide (y ≤ x)
  | .gt => decide (y < x)
  | .le => decide (x ≤ y)
def sneg (op : ClassFile.Cond) : ClassFile.Cond := match op with
  | .eq => .ne | .ne => .eq | .lt => .ge | .ge => .lt | .gt => .le | .le => .gt
def sswp (op : ClassFile.Cond) : ClassFile.Cond := match op with
  | .eq => .eq | .ne => .ne | .lt => .gt | .ge => .le | .gt => .lt | .le => .ge
theorem sneg_eq {op : ClassFile.Cond} {x y : Int} : scH (sneg op) x y = !(scH op x y) := by
  cases op <;> simp only [sneg, scH, Bool.not_not] <;> (rw [Bool.eq_iff_iff]; simp) <;> omega
theorem sswp_eq {op : ClassFile.Cond} {x y : Int} : scH (sswp op) x y = scH op y x := by
  cases op <;> simp [sswp, scH, eq_comm]
def sref (op : ClassFile.Cond) (c : Int) (b : sB) : sB := match op with
  | .eq => (max b.1 c, min b.2.1 c, b.2.2)
  | .ne => (if b.1 = c then b.1 + 1 else b.1, if b.2.1 = c then b.2.1 - 1 else b.2.1, c :: b.2.2)
  | .lt => (b.1, min b.2.1 (c - 1), b.2.2)
  | .ge => (max b.1 c, b.2.1, b.2.2)
  | .gt => (max b.1 (c + 1), b.2.1, b.2.2)
  | .le => (b.1, min b.2.1 c, b.2.2)
theorem sref_ok {op : ClassFile.Cond} {c x : Int} {b : sB} (h : sIn b x) (ho : scH op x c = true) : sIn (sref op c b) x := by
  obtain ⟨h1, h2, h3⟩ := h
  cases op with
  | eq => have : x = c := by simpa [scH] using ho
          refine ⟨?_, ?_, h3⟩ <;> (simp only [sref]; omega)
  | ne => have : ¬ x = c := by simpa [scH] using ho
          refine ⟨?_, ?_, ?_⟩
          · simp only [sref]; split <;> omega
          · simp only [sref]; split <;> omega
          · intro e he
            rcases List.mem_cons.mp he with rfl | he
            · exact this
            · exact h3 e he
  | lt => have : x < c := by simpa [scH] using ho
          refine ⟨?_, ?_, h3⟩ <;> (simp only [sref]; omega)
  | ge => have : c ≤ x := by simpa [scH] using ho
          refine ⟨?_, ?_, h3⟩ <;> (simp only [sref]; omega)
  | gt => have : c < x := by simpa [scH] using ho
          refine ⟨?_, ?_, h3⟩ <;> (simp only [sref]; omega)
  | le => have : x ≤ c := by simpa [scH] using ho
          refine ⟨?_, ?_, h3⟩ <;> (simp only [sref]; omega)
def sfull (b : sB) : Bool := decide (b.1 ≤ b.2.1) && !(decide (b.1 = b.2.1) && b.2.2.contains b.1)
theorem sfull_ok {b : sB} {x : Int} (h : sIn b x) : sfull b = true := by
  obtain ⟨h1, h2, h3⟩ := h
  unfold sfull
  by_cases e : b.1 = b.2.1
  · have e1 : x = b.1 := by omega
    have : ¬ b.1 ∈ b.2.2 := fun q => h3 _ q e1
    simp [e]
    rw [← e]; exact this
  · simp [e]; omega
def scmpV (G : sG) (k : Nat) (b : sB) (op : ClassFile.Cond) (c : Int) : List (Bool × sG) :=
  (if sfull (sref op c b) then [(true, G.set k (sref op c b))] else []) ++ (if sfull (sref (sneg op) c b) then [(false, G.set k (sref (sneg op) c b))] else [])
theorem scmpV_ok {ρ : Nat → Int32} {G : sG} {k : Nat} {b : sB} {op : ClassFile.Cond} {c : Int} (hG : sSat ρ G) (hk : G[k]? = some b) : ∃ q, q ∈ scmpV G k b op c ∧ sSat ρ q.2 ∧ q.1 = scH op (ρ k).toInt c := by
  have h := hG k b hk
  unfold scmpV
  cases ho : scH op (ρ k).toInt c with
  | true =>
    have h1 := sref_ok h ho
    refine ⟨(true, G.set k (sref op c b)), List.mem_append_left _ ?_, sSat_set hG h1, rfl⟩
    rw [if_pos (sfull_ok h1)]; exact List.mem_singleton.mpr rfl
  | false =>
    have h1 := sref_ok (op := sneg op) (c := c) h (by rw [sneg_eq, ho]; rfl)
    refine ⟨(false, G.set k (sref (sneg op) c b)), List.mem_append_right _ ?_, sSat_set hG h1, rfl⟩
    rw [if_pos (sfull_ok h1)]; exact List.mem_singleton.mpr rfl
def scmp (G : sG) (op : ClassFile.Cond) (a b : sV) : Option (List (Bool × sG)) := match a, b with
  | .inl (.int x), .inl (.int y) => some [(scH op x.toInt y.toInt, G)]
  | .inr (false, k), .inl (.int y) => match G[k]? with
    | none => none
    | some b => some (scmpV G k b op y.toInt)
  | .inl (.int x), .inr (false, k) => match G[k]? with
    | none => none
    | some b => some (scmpV G k b (sswp op) x.toInt)
  | _, _ => none
theorem scmp_ok {ρ : Nat → Int32} {G : sG} {op : ClassFile.Cond} {a b : sV} {l : List (Bool × sG)} (hG : sSat ρ G) (h : scmp G op a b = some l) :
    ∃ x y, sd ρ a = .int x ∧ sd ρ b = .int y ∧ ∃ q, q ∈ l ∧ sSat ρ q.2 ∧ q.1 = scH op x.toInt y.toInt := by
  unfold scmp at h
  split at h
  · cases h; exact ⟨_, _, rfl, rfl, _, List.mem_singleton.mpr rfl, hG, rfl⟩
  · split at h
    · cases h
    · rename_i b0 hk
      cases h
      obtain ⟨q, h1, h2, h3⟩ := scmpV_ok (op := op) hG hk
      exact ⟨_, _, rfl, rfl, q, h1, h2, h3⟩
  · split at h
    · cases h
    · rename_i b0 hk
      cases h
      obtain ⟨q, h1, h2, h3⟩ := scmpV_ok (op := sswp op) hG hk
      exact ⟨_, _, rfl, rfl, q, h1, h2, by rw [h3, sswp_eq]⟩
  · cases h
/-- the ints of two words -/
def sbin (op : Nat) (x y : Int32) : Int32 := match op with
  | 0 => x + y
  | 1 => x - y
  | 2 => x * y
  | 3 => x &&& y
  | 4 => x ||| y
  | 5 => x ^^^ y
  | 6 => x <<< (y &&& 31)
  | 7 => x >>> (y &&& 31)
  | 8 => (x.toUInt32 >>> (y.toUInt32 &&& Int32.toUInt32 31)).toInt32
  | _ => (x.toUInt32 % 65536).toInt32
def sint (v : sV) : Bool := match v with
  | .inl (.int _) => true
  | .inr (false, _) => true
  | _ => false
theorem sint_ok {ρ : Nat → Int32} {v : sV} (h : sint v = true) : ∃ x, sd ρ v = .int x := by
  rcases v with v | ⟨_ | _, k⟩
  · cases v <;> first | exact ⟨_, rfl⟩ | cases h
  · exact ⟨_, rfl⟩
  · cases h
def slit0 (v : sV) : Bool := match v with
  | .inl (.int x) => decide (x = 0)
  | _ => false
theorem slit0_ok {ρ : Nat → Int32} {v : sV} (h : slit0 v = true) : sd ρ v = .int 0 := by
  rcases v with v | ⟨_ | _, k⟩
  · cases v <;> first | (cases h; done) | skip
    simp [slit0] at h; rw [h]; rfl
  · cases h
  · cases h
def sDV (ρ : Nat → Int32) (dv : Nat → sV → sV → Option Nat) : Prop := ∀ (op : Nat) (a b : sV) (k : Nat), dv op a b = some k → ∃ x y, sd ρ a = .int x ∧ sd ρ b = .int y ∧ ρ k = sbin op x y
/-- two words of ints: what comes, by cases -/
def sbinC (lim : Int) (G : sG) (op : Nat) (a b : sV) : Option (List (sG × sV)) := match sconc lim G a with
  | none => none
  | some l => (l.foldr (fun q acc => match acc, sconc lim q.2 b with
    | some r, some l2 => some (l2.map (fun q2 => (q2.2, (.inl (.int (sbin op q.1 q2.1)) : sV))) ++ r)
    | _, _ => none) (some []))
theorem sbinC_aux {ρ : Nat → Int32} {lim : Int} {op : Nat} {a b : sV} {x : Int32} (hx : sd ρ a = .int x) : ∀ {l : List (Int32 × sG)} {r : List (sG × sV)},
    l.foldr (fun q acc => match acc, sconc lim q.2 b with
    | some r, some l2 => some (l2.map (fun q2 => (q2.2, (.inl (.int (sbin op q.1 q2.1)) : sV))) ++ r)
    | _, _ => none) (some []) = some r → ∀ q, q ∈ l → sSat ρ q.2 → q.1 = x → ∃ u y, u ∈ r ∧ sSat ρ u.1 ∧ sd ρ b = .int y ∧ sd ρ u.2 = .int (sbin op x y) := by
  intro l
  induction l with
  | nil => intro r h q hq; cases hq
  | cons q0 l ih =>
    intro r h q hq hs he
    rw [List.foldr_cons] at h
    split at h
    · rename_i r1 l2 h1 h2
      cases h
      rcases List.mem_cons.mp hq with rfl | hq
      · obtain ⟨q2, k1, k2, k3⟩ := sconc_ok hs h2
        exact ⟨(q2.2, .inl (.int (sbin op q.1 q2.1))), q2.1, List.mem_append_left _ (List.mem_map.mpr ⟨q2, k1, rfl⟩), k2, k3, by rw [← he]; rfl⟩
      · obtain ⟨u, y, k1, k2, k3, k4⟩ := ih h1 q hq hs he
        exact ⟨u, y, List.mem_append_right _ k1, k2, k3, k4⟩
    · cases h
theorem sbinC_ok {ρ : Nat → Int32} {lim : Int} {G : sG} {op : Nat} {a b : sV} {r : List (sG × sV)} (hG : sSat ρ G) (h : sbinC lim G op a b = some r) :
    ∃ x y, sd ρ a = .int x ∧ sd ρ b = .int y ∧ ∃ u, u ∈ r ∧ sSat ρ u.1 ∧ sd ρ u.2 = .int (sbin op x y) := by
  unfold sbinC at h
  split at h
  · cases h
  · rename_i l hl
    obtain ⟨q, h1, h2, h3⟩ := sconc_ok hG hl
    obtain ⟨u, y, k1, k2, k3, k4⟩ := sbinC_aux h3 h q h1 h2 rfl
    exact ⟨q.1, y, h3, k3, u, k1, k2, k4⟩
def sbinA (dv : Nat → sV → sV → Option Nat) (G : sG) (op : Nat) (a b : sV) : Option (List (sG × sV)) :=
  if (op == 2 || op == 3) && ((slit0 a && sint b) || (slit0 b && sint a)) then some [(G, .inl (.int 0))]
  else if (op == 0 || op == 4 || op == 5) && (slit0 a && sint b) then some [(G, b)]
  else if (op == 0 || op == 1 || op == 4 || op == 5) && (slit0 b && sint a) then some [(G, a)]
  else match sbinC 4 G op a b with
  | some r => some r
  | none => match dv op a b with
    | some k => some [(G, .inr (false, k))]
    | none => sbinC 70 G op a b
theorem sbinA_ok {ρ : Nat → Int32} {dv : Nat → sV → sV → Option Nat} (hdv : sDV ρ dv) {G : sG} {op : Nat} {a b : sV} {r : List (sG × sV)} (hG : sSat ρ G) (h : sbinA dv G op a b = some r) :
    ∃ x y, sd ρ a = .int x ∧ sd ρ b = .int y ∧ ∃ u, u ∈ r ∧ sSat ρ u.1 ∧ sd ρ u.2 = .int (sbin op x y) := by
  unfold sbinA at h
  split at h
  · rename_i hc
    cases h
    simp only [Bool.and_eq_true, Bool.or_eq_true, beq_iff_eq] at hc
    obtain ⟨h1, ⟨h2, h3⟩ | ⟨h2, h3⟩⟩ := hc
    · obtain ⟨y, hy⟩ := sint_ok (ρ := ρ) h3
      refine ⟨0, y, slit0_ok h2, hy, _, List.mem_singleton.mpr rfl, hG, ?_⟩
      rcases h1 with rfl | rfl <;> simp [sd, sbin]
    · obtain ⟨y, hy⟩ := sint_ok (ρ := ρ) h3
      refine ⟨y, 0, hy, slit0_ok h2, _, List.mem_singleton.mpr rfl, hG, ?_⟩
      rcases h1 with rfl | rfl <;> simp [sd, sbin]
  · split at h
    · rename_i hc
      cases h
      simp only [Bool.and_eq_true, Bool.or_eq_true, beq_iff_eq] at hc
      obtain ⟨h1, h2, h3⟩ := hc
      obtain ⟨y, hy⟩ := sint_ok (ρ := ρ) h3
      refine ⟨0, y, slit0_ok h2, hy, _, List.mem_singleton.mpr rfl, hG, ?_⟩
      rw [hy]
      rcases h1 with (rfl | rfl) | rfl <;> simp [sbin]
    · split at h
      · rename_i hc
        cases h
        simp only [Bool.and_eq_true, Bool.or_eq_true, beq_iff_eq] at hc
        obtain ⟨h1, h2, h3⟩ := hc
        obtain ⟨y, hy⟩ := sint_ok (ρ := ρ) h3
        refine ⟨y, 0, hy, slit0_ok h2, _, List.mem_singleton.mpr rfl, hG, ?_⟩
        rw [hy]
        rcases h1 with ((rfl | rfl) | rfl) | rfl <;> simp [sbin]
      · split at h
        · rename_i r1 hr
          cases h
          exact sbinC_ok hG hr
        · split at h
          · rename_i k hk
            cases h
            obtain ⟨x, y, h1, h2, h3⟩ := hdv _ _ _ _ hk
            exact ⟨x, y, h1, h2, _, List.mem_singleton.mpr rfl, hG, by rw [← h3]; rfl⟩
          · exact sbinC_ok hG h
end SX1
end
section
section SX2
def s_i (v : Value) : Int32 := match v with | .int x => x | _ => 0
def s_l (v : Value) : Int64 := match v with | .long x => x | _ => 0
def s_d (v : Value) : UInt64 := match v with | .double x => x | _ => 0
def s_q (v : Value) : Option Nat := match v with | .ref x => some x | _ => none
def slook (d : sV) (j : Nat) : List (Nat × sV) → sV
  | [] => d
  | q :: r => if j = q.1 then q.2 else slook d j r
def sfi (ρ : Nat → Int32) : List (Nat × sV) → Nat → Int32
  | [] => fun _ => 0
  | q :: r => upd (sfi ρ r) q.1 (s_i (sd ρ q.2))
def sfl (ρ : Nat → Int32) : List (Nat × sV) → Nat → Int64
  | [] => fun _ => 0
  | q :: r => vp_updL (sfl ρ r) q.1 (s_l (sd ρ q.2))
def sfq (ρ : Nat → Int32) : List (Nat × sV) → Nat → Option Nat
  | [] => fun _ => none
  | q :: r => va_up (sfq ρ r) q.1 (s_q (sd ρ q.2))
theorem sfi_at {ρ : Nat → Int32} {j : Nat} : ∀ {us : List (Nat × sV)}, sfi ρ us j = s_i (sd ρ (slook (.inl (.int 0)) j us)) := by
  intro us
  induction us with
  | nil => rfl
  | cons q r ih =>
    unfold sfi slook upd
    by_cases h : j = q.1
    · rw [if_pos h, if_pos h]
    · rw [if_neg h, if_neg h]; exact ih
theorem sfl_at {ρ : Nat → Int32} {j : Nat} : ∀ {us : List (Nat × sV)}, sfl ρ us j = s_l (sd ρ (slook (.inl (.long 0)) j us)) := by
  intro us
  induction us with
  | nil => rfl
  | cons q r ih =>
    unfold sfl slook vp_updL
    by_cases h : j = q.1
    · rw [if_pos h, if_pos h]
    · rw [if_neg h, if_neg h]; exact ih
theorem sfq_at {ρ : Nat → Int32} {j : Nat} : ∀ {us : List (Nat × sV)}, sfq ρ us j = s_q (sd ρ (slook (.inl .null) j us)) := by
  intro us
  induction us with
  | nil => rfl
  | cons q r ih =>
    unfold sfq slook va_up
    by_cases h : j = q.1
    · rw [if_pos h, if_pos h]
    · rw [if_neg h, if_neg h]; exact ih
def se (ρ : Nat → Int32) (e : sE) : mE := match e with
  | .inl (ci, fs) => .inr (ci, fs.map (sd ρ))
  | .inr (ty, n, 0, us) => .inl (ty, n, .inl (sfi ρ us))
  | .inr (ty, n, 1, us) => .inl (ty, n, .inr (.inl (sfl ρ us)))
  | .inr (ty, n, 2, _) => .inl (ty, n, .inr (.inr (.inr (.inl (fun _ => 0)))))
  | .inr (ty, n, _, us) => .inl (ty, n, .inr (.inr (.inr (.inr (sfq ρ us)))))
def sdL (ρ : Nat → Int32) (L : List (Nat × sV)) : List (Nat × Value) := L.map (fun q => (q.1, sd ρ q.2))
def sdS (ρ : Nat → Int32) (S : List sV) : List Value := S.map (sd ρ)
def sdM (ρ : Nat → Int32) (M : List sE) : mH := M.map (se ρ)
theorem sdM_at {ρ : Nat → Int32} {M : List sE} {i : Nat} {e : sE} (h : M[i]? = some e) : (sdM ρ M)[i]? = some (se ρ e) := by
  unfold sdM; rw [List.getElem?_map, h]; rfl
theorem sdM_set {ρ : Nat → Int32} {M : List sE} {i : Nat} {e : sE} : sdM ρ (M.set i e) = (sdM ρ M).set i (se ρ e) := by
  unfold sdM; rw [List.map_set]
theorem sdM_app {ρ : Nat → Int32} {M N : List sE} : sdM ρ (M ++ N) = sdM ρ M ++ sdM ρ N := by
  unfold sdM; rw [List.map_append]
theorem sdM_len {ρ : Nat → Int32} {M : List sE} : (sdM ρ M).length = M.length := by
  unfold sdM; rw [List.length_map]
theorem sdS_app {ρ : Nat → Int32} {M N : List sV} : sdS ρ (M ++ N) = sdS ρ M ++ sdS ρ N := by
  unfold sdS; rw [List.map_append]
theorem sdS_rev {ρ : Nat → Int32} {M : List sV} : sdS ρ M.reverse = (sdS ρ M).reverse := by
  unfold sdS; rw [List.map_reverse]
theorem sdS_sum {ρ : Nat → Int32} {S : List sV} : ((sdS ρ S).map fun v => v.category).sum = (S.map scat).sum := by
  unfold sdS
  rw [List.map_map]
  congr 1
  exact List.map_congr_left (fun v _ => scat_eq)
def sget (L : List (Nat × sV)) (i : Nat) : Option sV := match L with
  | [] => none
  | q :: r => if q.1 = i then some q.2 else sget r i
theorem sget_ok {ρ : Nat → Int32} {i : Nat} {v : sV} : ∀ {L : List (Nat × sV)}, sget L i = some v → mj_get (sdL ρ L) i = some (sd ρ v) := by
  intro L
  induction L with
  | nil => intro h; cases h
  | cons q r ih =>
    intro h
    unfold sget at h
    unfold mj_get sdL
    rw [List.map_cons, List.find?_cons]
    by_cases e : q.1 = i
    · rw [if_pos e] at h
      cases h
      simp [e]
    · rw [if_neg e] at h
      have e2 : (q.1 == i) = false := by simp [e]
      simp only [e2]
      exact ih h
def sput1 (i : Nat) (v : sV) (L : List (Nat × sV)) : List (Nat × sV) := (i, v) :: L.filter (fun q => !(q.1 == i) && !(q.1 + 1 == i && scat q.2 == 2))
def sput2 (i : Nat) (v : sV) (L : List (Nat × sV)) : List (Nat × sV) := (i, v) :: L.filter (fun q => !(q.1 == i) && (!(q.1 == i + 1) && !(q.1 + 1 == i && scat q.2 == 2)))
theorem sput1_ok {ρ : Nat → Int32} {i : Nat} {v : sV} {L : List (Nat × sV)} : mj_put1 i (sd ρ v) (sdL ρ L) = sdL ρ (sput1 i v L) := by
  unfold mj_put1 sput1 sdL
  rw [List.map_cons, List.filter_map]
  congr 2
  exact List.filter_congr (fun q _ => by simp only [Function.comp_def, scat_eq])
theorem sput2_ok {ρ : Nat → Int32} {i : Nat} {v : sV} {L : List (Nat × sV)} : mj_put2 i (sd ρ v) (sdL ρ L) = sdL ρ (sput2 i v L) := by
  unfold mj_put2 sput2 sdL
  rw [List.map_cons, List.filter_map]
  congr 2
  exact List.filter_congr (fun q _ => by simp only [Function.comp_def, scat_eq])
def sargs : Nat → List sV → List (Nat × sV)
  | _, [] => []
  | i, v :: vs => (i, v) :: sargs (if scat v = 2 then i + 2 else i + 1) vs
theorem sargs_ok {ρ : Nat → Int32} : ∀ {vs : List sV} {i : Nat}, lv_args i (sdS ρ vs) = sdL ρ (sargs i vs) := by
  intro vs
  induction vs with
  | nil => intro i; rfl
  | cons v vs ih =>
    intro i
    show (i, sd ρ v) :: lv_args (if (sd ρ v).category = 2 then i + 2 else i + 1) (sdS ρ vs) = (i, sd ρ v) :: sdL ρ (sargs _ vs)
    rw [scat_eq, ih]
def swid : List sV → Nat
  | [] => 0
  | v :: vs => (if scat v = 2 then 2 else 1) + swid vs
theorem swid_ok {ρ : Nat → Int32} : ∀ {vs : List sV}, (lg_sl (sdS ρ vs)).length = swid vs := by
  intro vs
  induction vs with
  | nil => rfl
  | cons v vs ih =>
    have : sdS ρ (v :: vs) = sd ρ v :: sdS ρ vs := rfl
    unfold lg_sl at ih ⊢
    unfold swid
    rw [this, List.flatMap_cons, List.length_append, ih, scat_eq]
    split <;> rfl
-- ===== families of instructions =====
def vty (t : Nat) (v : Value) : Bool := match t, v with
  | 0, .int _ => true
  | 1, .long _ => true
  | 2, .float _ => true
  | 3, .double _ => true
  | 4, v => mj_isr v
  | _, _ => false
def svty (t : Nat) (v : sV) : Bool := match v with
  | .inl v => vty t v
  | .inr (false, _) => t == 0
  | .inr (true, _) => t == 1
theorem svty_ok {ρ : Nat → Int32} {t : Nat} {v : sV} (h : svty t v = true) : vty t (sd ρ v) = true := by
  rcases v with v | ⟨_ | _, k⟩
  · exact h
  · have : t = 0 := by simpa [svty] using h
    subst this; rfl
  · have : t = 1 := by simpa [svty] using h
    subst this; rfl
def spush (i : Instr) (len : Nat) : Option Value := match i, len with
  | .iconst n, 1 => some (.int (Int32.ofInt n))
  | .bipush n, 2 => some (.int (Int8.ofInt n).toInt32)
  | .sipush n, 3 => some (.int (Int16.ofInt n).toInt32)
  | .lconst n, 1 => some (.long (Int64.ofNat (n : Nat)))
  | .aconst_null, 1 => some .null
  | .fconst 0, 1 => some (.float 0)
  | .dconst 0, 1 => some (.double 0)
  | _, _ => none
def sload (i : Instr) (len : Nat) : Option (Nat × Nat) := match i, len with
  | .iload_n n, 1 => some ((n : Nat), 0)
  | .iload n, 2 => some (n, 0)
  | .lload_n n, 1 => some ((n : Nat), 1)
  | .lload n, 2 => some (n, 1)
  | .fload_n n, 1 => some ((n : Nat), 2)
  | .fload n, 2 => some (n, 2)
  | .dload_n n, 1 => some ((n : Nat), 3)
  | .dload n, 2 => some (n, 3)
  | .aload_n n, 1 => some ((n : Nat), 4)
  | .aload n, 2 => some (n, 4)
  | _, _ => none
def sstore (i : Instr) (len : Nat) : Option (Nat × Nat) := match i, len with
  | .istore_n n, 1 => some ((n : Nat), 0)
  | .istore n, 2 => some (n, 0)
  | .lstore_n n, 1 => some ((n : Nat), 1)
  | .lstore n, 2 => some (n, 1)
  | .fstore_n n, 1 => some ((n : Nat), 2)
  | .fstore n, 2 => some (n, 2)
  | .dstore_n n, 1 => some ((n : Nat), 3)
  | .dstore n, 2 => some (n, 3)
  | .astore_n n, 1 => some ((n : Nat), 4)
  | .astore n, 2 => some (n, 4)
  | _, _ => none
def sbo (i : Instr) : Option Nat := match i with
  | .iadd => some 0
  | .isub => some 1
  | .imul => some 2
  | .iand => some 3
  | .ior => some 4
  | .ixor => some 5
  | .ishl => some 6
  | .ishr => some 7
  | .iushr => some 8
  | _ => none
variable {TT : List Cond} {cl : List vw_C} {X : XT} {mi : MI} {fr lo : Nat} {P : Option Value → mH → Prop} {PX : String → mH → Prop} {kc ks pc : Nat} {L : List (Nat × Value)} {S : List Value} {M : mH}
theorem lx_push {i : Instr} {len : Nat} {v : Value} (h : spush i len = some v) (d : decode mi.2.1 pc = .ok (i, len)) (k : LX TT cl X mi fr lo P PX kc ks (pc + len) L (v :: S) M) : LX TT cl X mi fr lo P PX kc ks pc L S M := by
  unfold spush at h
  split at h
  · cases h; exact lx_iconst d rfl k
  · cases h; exact lx_bipush d rfl k
  · cases h; exact lx_sipush d rfl k
  · cases h; exact lx_lconst d rfl k
  · cases h; exact lx_null d k
  · cases h; exact lx_fconst0 d k
  · cases h; exact lx_dconst0 d k
  · cases h
theorem vty_0 {v : Value} (h : vty 0 v = true) : ∃ x, v = .int x := by
  cases v <;> first | exact ⟨_, rfl⟩ | cases h
theorem vty_1 {v : Value} (h : vty 1 v = true) : ∃ x, v = .long x := by
  cases v <;> first | exact ⟨_, rfl⟩ | cases h
theorem vty_2 {v : Value} (h : vty 2 v = true) : ∃ x, v = .float x := by
  cases v <;> first | exact ⟨_, rfl⟩ | cases h
theorem vty_3 {v : Value} (h : vty 3 v = true) : ∃ x, v = .double x := by
  cases v <;> first | exact ⟨_, rfl⟩ | cases h
theorem vty_4 {v : Value} (h : vty 4 v = true) : mj_isr v = true := h
theorem lx_load {i : Instr} {len x t : Nat} {v : Value} (h : sload i len = some (x, t)) (d : decode mi.2.1 pc = .ok (i, len)) (hg : mj_get L x = some v) (hv : vty t v = true) (k : LX TT cl X mi fr lo P PX kc ks (pc + len) L (v :: S) M) : LX TT cl X mi fr lo P PX kc ks pc L S M := by
  unfold sload at h
  split at h
  · cases h; obtain ⟨z, rfl⟩ := vty_0 hv; exact lx_iload_n d rfl hg k
  · cases h; obtain ⟨z, rfl⟩ := vty_0 hv; exact lx_iload d hg k
  · cases h; obtain ⟨z, rfl⟩ := vty_1 hv; exact lx_lload_n d rfl hg k
  · cases h; obtain ⟨z, rfl⟩ := vty_1 hv; exact lx_lload d hg k
  · cases h; obtain ⟨z, rfl⟩ := vty_2 hv; exact lx_fload_n d rfl hg k
  · cases h; obtain ⟨z, rfl⟩ := vty_2 hv; exact lx_fload d hg k
  · cases h; obtain ⟨z, rfl⟩ := vty_3 hv; exact lx_dload_n d rfl hg k
  · cases h; obtain ⟨z, rfl⟩ := vty_3 hv; exact lx_dload d hg k
  · cases h; exact lx_aload_n d rfl hg (vty_4 hv) k
  · cases h; exact lx_aload d hg (vty_4 hv) k
  · cases h
theorem lx_store {i : Instr} {len x t : Nat} {v : Value} (h : sstore i len = some (x, t)) (d : decode mi.2.1 pc = .ok (i, len)) (hv : vty t v = true) (hx : x + 1 < mi.2.2.1 ∨ (x < mi.2.2.1 ∧ (t == 1 || t == 3) = false))
    (k : LX TT cl X mi fr lo P PX kc ks (pc + len) (if t == 1 || t == 3 then mj_put2 x v L else mj_put1 x v L) S M) : LX TT cl X mi fr lo P PX kc ks pc L (v :: S) M := by
  have hx1 : x < mi.2.2.1 := by rcases hx with h | h <;> omega
  unfold sstore at h
  split at h
  · cases h; obtain ⟨z, rfl⟩ := vty_0 hv; exact lx_istore_n d rfl hx1 rfl k
  · cases h; obtain ⟨z, rfl⟩ := vty_0 hv; exact lx_istore d hx1 rfl k
  · cases h; obtain ⟨z, rfl⟩ := vty_1 hv; exact lx_lstore_n d rfl (by rcases hx with h | ⟨_, h⟩; exact h; cases h) rfl k
  · cases h; obtain ⟨z, rfl⟩ := vty_1 hv; exact lx_lstore d (by rcases hx with h | ⟨_, h⟩; exact h; cases h) rfl k
  · cases h; obtain ⟨z, rfl⟩ := vty_2 hv; exact lx_fstore_n d rfl hx1 rfl k
  · cases h; obtain ⟨z, rfl⟩ := vty_2 hv; exact lx_fstore d hx1 rfl k
  · cases h; obtain ⟨z, rfl⟩ := vty_3 hv; exact lx_dstore_n d rfl (by rcases hx with h | ⟨_, h⟩; exact h; cases h) rfl k
  · cases h; obtain ⟨z, rfl⟩ := vty_3 hv; exact lx_dstore d (by rcases hx with h | ⟨_, h⟩; exact h; cases h) rfl k
  · cases h; exact lx_astore_n d rfl hx1 (vty_4 hv) rfl k
  · cases h; exact lx_astore d hx1 (vty_4 hv) rfl k
  · cases h
theorem lx_bin {i : Instr} {op : Nat} {x y : Int32} (h : sbo i = some op) (d : decode mi.2.1 pc = .ok (i, 1)) (k : LX TT cl X mi fr lo P PX kc ks (pc + 1) L (.int (sbin op x y) :: S) M) : LX TT cl X mi fr lo P PX kc ks pc L (.int y :: .int x :: S) M := by
  unfold sbo at h
  split at h
  · cases h; exact lx_iadd d k
  · cases h; exact lx_isub d k
  · cases h; exact lx_imul d k
  · cases h; exact lx_iand d k
  · cases h; exact lx_ior d k
  · cases h; exact lx_ixor d k
  · cases h; exact lx_ishl d k
  · cases h; exact lx_ishr d k
  · cases h; exact lx_iushr d k
  · cases h
theorem scH_eq {x y : Int32} : (scH .eq x.toInt y.toInt = true) ↔ x = y := by simp [scH, Int32.toInt_inj]
theorem lx_icmp {op : ClassFile.Cond} {x y : Int32} {off : Int} {tgt : Nat} (d : decode mi.2.1 pc = .ok (.if_icmp op off, 3)) (ht : (pc : Int) + off = (tgt : Int)) (kt : scH op x.toInt y.toInt = true → LX TT cl X mi fr lo P PX kc ks tgt L S M) (kf : scH op x.toInt y.toInt = false → LX TT cl X mi fr lo P PX kc ks (pc + 3) L S M) : LX TT cl X mi fr lo P PX kc ks pc L (.int y :: .int x :: S) M := by
  cases op with
  | eq => exact lx_icmp_eq d ht (fun h => kt (by simp [scH, h])) (fun h => kf (by simp [scH, Int32.toInt_inj, h]))
  | ne => exact lx_icmp_ne d ht (fun h => kt (by simp [scH, Int32.toInt_inj, h])) (fun h => kf (by simp [scH, h]))
  | lt => exact lx_icmp_lt d ht (fun h => kt (by simp [scH]; exact Int32.lt_iff_toInt_lt.mp h)) (fun h => kf (by simp [scH]; exact Int.not_lt.mp (fun q => h (Int32.lt_iff_toInt_lt.mpr q))))
  | ge => exact lx_icmp_ge d ht (fun h => kt (by simp [scH]; exact Int32.le_iff_toInt_le.mp h)) (fun h => kf (by simp [scH]; exact Int.not_le.mp (fun q => h (Int32.le_iff_toInt_le.mpr q))))
  | gt => exact lx_icmp_gt d ht (fun h => kt (by simp [scH]; exact Int32.lt_iff_toInt_lt.mp h)) (fun h => kf (by simp [scH]; exact Int.not_lt.mp (fun q => h (Int32.lt_iff_toInt_lt.mpr q))))
  | le => exact lx_icmp_le d ht (fun h => kt (by simp [scH]; exact Int32.le_iff_toInt_le.mp h)) (fun h => kf (by simp [scH]; exact Int.not_le.mp (fun q => h (Int32.le_iff_toInt_le.mpr q))))
theorem lx_if {op : ClassFile.Cond} {x : Int32} {off : Int} {tgt : Nat} (d : decode mi.2.1 pc = .ok (.ifCond op off, 3)) (ht : (pc : Int) + off = (tgt : Int)) (kt : scH op x.toInt (0 : Int32).toInt = true → LX TT cl X mi fr lo P PX kc ks tgt L S M) (kf : scH op x.toInt (0 : Int32).toInt = false → LX TT cl X mi fr lo P PX kc ks (pc + 3) L S M) : LX TT cl X mi fr lo P PX kc ks pc L (.int x :: S) M := by
  cases op with
  | eq => exact lx_if_eq d ht (fun h => kt (by simp [scH, h])) (fun h => kf (by simp only [scH, Int32.toInt_inj, h, decide_false]))
  | ne => exact lx_if_ne d ht (fun h => kt (by simp only [scH, Int32.toInt_inj, h, decide_false, Bool.not_false])) (fun h => kf (by simp [scH, h]))
  | lt => exact lx_if_lt d ht (fun h => kt (by simp only [scH, decide_eq_true_eq]; exact Int32.lt_iff_toInt_lt.mp h)) (fun h => kf (by simp only [scH, decide_eq_false_iff_not]; exact (fun q => h (Int32.lt_iff_toInt_lt.mpr q))))
  | ge => exact lx_if_ge d ht (fun h => kt (by simp only [scH, decide_eq_true_eq]; exact Int32.le_iff_toInt_le.mp h)) (fun h => kf (by simp only [scH, decide_eq_false_iff_not]; exact (fun q => h (Int32.le_iff_toInt_le.mpr q))))
  | gt => exact lx_if_gt d ht (fun h => kt (by simp only [scH, decide_eq_true_eq]; exact Int32.lt_iff_toInt_lt.mp h)) (fun h => kf (by simp only [scH, decide_eq_false_iff_not]; exact (fun q => h (Int32.lt_iff_toInt_lt.mpr q))))
  | le => exact lx_if_le d ht (fun h => kt (by simp only [scH, decide_eq_true_eq]; exact Int32.le_iff_toInt_le.mp h)) (fun h => kf (by simp only [scH, decide_eq_false_iff_not]; exact (fun q => h (Int32.le_iff_toInt_le.mpr q))))
end SX2
end
section
section SX3
abbrev sT : Type := sC × Nat × Nat
def stgt (pc : Nat) (off : Int) : Option Nat := match (pc : Int) + off with
  | .ofNat t => some t
  | _ => none
theorem stgt_ok {pc t : Nat} {off : Int} (h : stgt pc off = some t) : (pc : Int) + off = (t : Int) := by
  unfold stgt at h
  split at h
  · rename_i t1 e
    cases h
    exact e
  · cases h
def sput (t x : Nat) (v : sV) (L : List (Nat × sV)) : List (Nat × sV) := if t == 1 || t == 3 then sput2 x v L else sput1 x v L
theorem sput_ok {ρ : Nat → Int32} {t x : Nat} {v : sV} {L : List (Nat × sV)} : (if t == 1 || t == 3 then mj_put2 x (sd ρ v) (sdL ρ L) else mj_put1 x (sd ρ v) (sdL ρ L)) = sdL ρ (sput t x v L) := by
  unfold sput
  split
  · exact sput2_ok
  · exact sput1_ok
def sisR (v : sV) : Bool := match v with | .inl v => mj_isR v | _ => false
theorem sisR_ok {ρ : Nat → Int32} {v : sV} (h : sisR v = true) : mj_isR (sd ρ v) = true := by
  rcases v with v | ⟨_ | _, k⟩
  · exact h
  · cases h
  · cases h
/-- words on the stack, branches -/
def sstA (dv : Nat → sV → sV → Option Nat) (maxL : Nat) (i : Instr) (len : Nat) (G : sG) (pc : Nat) (L : List (Nat × sV)) (S : List sV) (M : List sE) : Option (List sT) := match i, len, S with
  | .goto off, 3, S => match stgt pc off with
    | some t => some [((G, t, L, S, M), 0, 0)]
    | none => none
  | .if_icmp op off, 3, b :: a :: S => match stgt pc off, scmp G op a b with
    | some t, some l => some (l.map (fun q => ((q.2, (if q.1 then t else pc + 3), L, S, M), 0, 0)))
    | _, _ => none
  | .ifCond op off, 3, a :: S => match stgt pc off, scmp G op a (.inl (.int 0)) with
    | some t, some l => some (l.map (fun q => ((q.2, (if q.1 then t else pc + 3), L, S, M), 0, 0)))
    | _, _ => none
  | .ifnull off, 3, v :: S => if sisR v then some [((G, pc + 3, L, S, M), 0, 0)] else match v, stgt pc off with
    | .inl .null, some t => some [((G, t, L, S, M), 0, 0)]
    | _, _ => none
  | .ifnonnull off, 3, v :: S => match v with
    | .inl .null => some [((G, pc + 3, L, S, M), 0, 0)]
    | v => if sisR v then (match stgt pc off with
      | some t => some [((G, t, L, S, M), 0, 0)]
      | none => none) else none
  | .iinc x n, 3, S => if x < maxL then (match sget L x with
    | some v => match sconc 70 G v with
      | some l => some (l.map (fun q => ((q.2, pc + 3, sput1 x (.inl (.int (q.1 + Int32.ofInt n))) L, S, M), 0, 0)))
      | none => none
    | none => none) else none
  | .i2l, 1, a :: S => match a with
    | .inl (.int x) => some [((G, pc + 1, L, .inl (.long x.toInt64) :: S, M), 0, 0)]
    | .inr (false, k) => some [((G, pc + 1, L, .inr (true, k) :: S, M), 0, 0)]
    | _ => none
  | .i2c, 1, a :: S => match a with
    | .inl (.int x) => some [((G, pc + 1, L, .inl (.int (x.toUInt32 % 65536).toInt32) :: S, M), 0, 0)]
    | a => match dv 9 a (.inl (.int 0)) with
      | some k => some [((G, pc + 1, L, .inr (false, k) :: S, M), 0, 0)]
      | none => none
  | .lcmp, 1, b :: a :: S => match a, b with
    | .inl (.long x), .inl (.long y) => some [((G, pc + 1, L, .inl (.int (lg_cmp x y)) :: S, M), 0, 0)]
    | .inr (true, j), .inr (true, k) => if j = k then some [((G, pc + 1, L, .inl (.int 0) :: S, M), 0, 0)] else none
    | _, _ => none
  | .dup, 1, v :: S => if scat v = 1 then some [((G, pc + 1, L, v :: v :: S, M), 0, 0)] else none
  | .pop, 1, v :: S => if scat v = 1 then some [((G, pc + 1, L, S, M), 0, 0)] else none
  | .dup2, 1, v :: u :: S => if scat v = 1 ∧ scat u = 1 then some [((G, pc + 1, L, v :: u :: v :: u :: S, M), 0, 0)] else none
  | .dup_x1, 1, v :: u :: S => if scat v = 1 ∧ scat u = 1 then some [((G, pc + 1, L, v :: u :: v :: S, M), 0, 0)] else none
  | .tableswitch dflt lo9 hi9 offs, _, a :: S => match sconc 70 G a with
    | some l => l.foldr (fun q acc => match acc, (if q.1.toInt < lo9 ∨ hi9 < q.1.toInt then some dflt else offs[(q.1.toInt - lo9).toNat]?) with
      | some r, some off => (match stgt pc off with
        | some t => some (((q.2, t, L, S, M), 0, 0) :: r)
        | none => none)
      | _, _ => none) (some [])
    | none => none
  | _, _, _ => none
variable {TT : List Cond} {cl : List vw_C} {X : XT} {mi : MI} {fr lo : Nat} {P : Option Value → mH → Prop} {PX : String → mH → Prop} {KC KS : Nat} {ρ : Nat → Int32}
def sOne (TT : List Cond) (cl : List vw_C) (X : XT) (mi : MI) (fr lo : Nat) (P : Option Value → mH → Prop) (PX : String → mH → Prop) (ρ : Nat → Int32) (KC KS : Nat) (t : sT) : Prop :=
  sSat ρ t.1.1 → ∃ kc ks, kc + t.2.1 ≤ KC ∧ ks + t.2.2 ≤ KS ∧ LX TT cl X mi fr lo P PX kc ks t.1.2.1 (sdL ρ t.1.2.2.1) (sdS ρ t.1.2.2.2.1) (sdM ρ t.1.2.2.2.2)
theorem sOne_get {l : List sT} {G : sG} {pc : Nat} {L : List (Nat × sV)} {S : List sV} {M : List sE} (h : ∀ t, t ∈ l → sOne TT cl X mi fr lo P PX ρ KC KS t) (hm : ((G, pc, L, S, M), 0, 0) ∈ l) (hs : sSat ρ G) :
    LX TT cl X mi fr lo P PX KC KS pc (sdL ρ L) (sdS ρ S) (sdM ρ M) := by
  obtain ⟨kc, ks, h1, h2, h3⟩ := h _ hm hs
  exact lx_room h1 h2 h3
theorem sstA_table {dv : Nat → sV → sV → Option Nat} {dflt lo9 hi9 : Int} {offs : Array Int} {len pc : Nat} {L : List (Nat × sV)} {S : List sV} {M : List sE} {x : Int32} (d : decode mi.2.1 pc = .ok (.tableswitch dflt lo9 hi9 offs, len)) :
    ∀ {l : List (Int32 × sG)} {r : List sT}, (l.foldr (fun q acc => match acc, (if q.1.toInt < lo9 ∨ hi9 < q.1.toInt then some dflt else offs[(q.1.toInt - lo9).toNat]?) with
      | some r, some off => (match stgt pc off with
        | some t => some (((q.2, t, L, S, M), 0, 0) :: r)
        | none => none)
      | _, _ => none) (some [] : Option (List sT))) = some r → ∀ q, q ∈ l → sSat ρ q.2 → q.1 = x → (∀ t, t ∈ r → sOne TT cl X mi fr lo P PX ρ KC KS t) →
      LX TT cl X mi fr lo P PX KC KS pc (sdL ρ L) (.int x :: sdS ρ S) (sdM ρ M) := by
  intro l
  induction l with
  | nil => intro r h q hq; cases hq
  | cons q0 l ih =>
    intro r h q hq hs he hall
    rw [List.foldr_cons] at h
    split at h
    · rename_i r1 off h1 h2
      split at h
      · rename_i t ht
        cases h
        rcases List.mem_cons.mp hq with rfl | hq
        · have k := sOne_get hall List.mem_cons_self hs
          subst he
          split at h2
          · rename_i h9
            cases h2
            exact lx_tableOut d h9 (stgt_ok ht) k
          · rename_i h9
            exact lx_tableIn d (fun z => h9 (Or.inl z)) (fun z => h9 (Or.inr z)) h2 (stgt_ok ht) k
        · exact ih h1 q hq hs he (fun t ht => hall t (List.mem_cons_of_mem _ ht))
      · cases h
    · cases h
theorem sstA_ok {dv : Nat → sV → sV → Option Nat} {i : Instr} {len : Nat} {G : sG} {pc : Nat} {L : List (Nat × sV)} {S : List sV} {M : List sE} {r : List sT}
    (hdv : sDV ρ dv) (hG : sSat ρ G) (h : sstA dv mi.2.2.1 i len G pc L S M = some r) (d : decode mi.2.1 pc = .ok (i, len)) (hall : ∀ t, t ∈ r → sOne TT cl X mi fr lo P PX ρ KC KS t) :
    LX TT cl X mi fr lo P PX KC KS pc (sdL ρ L) (sdS ρ S) (sdM ρ M) := by
  unfold sstA at h
  split at h
  · split at h
    · rename_i t ht
      cases h
      exact lx_goto d (stgt_ok ht) (sOne_get hall (List.mem_singleton.mpr rfl) hG)
    · cases h
  · split at h
    · rename_i b a S _ _ t l ht hl
      cases h
      obtain ⟨x, y, h1, h2, q, h3, h4, h5⟩ := scmp_ok hG hl
      have k := sOne_get hall (List.mem_map.mpr ⟨q, h3, rfl⟩) h4
      have e1 : sdS ρ (b :: a :: S) = .int y :: .int x :: sdS ρ S := by rw [← h1, ← h2]; rfl
      rw [e1]
      refine lx_icmp d (stgt_ok ht) (fun hh => ?_) (fun hh => ?_)
      · rw [h5, hh, if_pos rfl] at k; exact k
      · rw [h5, hh, if_neg (by decide)] at k; exact k
    · cases h
  · split at h
    · rename_i a S _ _ t l ht hl
      cases h
      obtain ⟨x, y, h1, h2, q, h3, h4, h5⟩ := scmp_ok hG hl
      have k := sOne_get hall (List.mem_map.mpr ⟨q, h3, rfl⟩) h4
      cases h2
      have e1 : sdS ρ (a :: S) = .int x :: sdS ρ S := by rw [← h1]; rfl
      rw [e1]
      refine lx_if d (stgt_ok ht) (fun hh => ?_) (fun hh => ?_)
      · rw [h5, hh, if_pos rfl] at k; exact k
      · rw [h5, hh, if_neg (by decide)] at k; exact k
    · cases h
  · split at h
    · rename_i hv
      cases h
      exact lx_ifnull_r d (sisR_ok hv) (sOne_get hall (List.mem_singleton.mpr rfl) hG)
    · split at h
      · rename_i ht _
        cases h
        exact lx_ifnull_n d (stgt_ok ht) (sOne_get hall (List.mem_singleton.mpr rfl) hG)
      · cases h
  · split at h
    · cases h
      exact lx_ifnonnull_n d (sOne_get hall (List.mem_singleton.mpr rfl) hG)
    · split at h
      · rename_i hv
        split at h
        · rename_i ht
          cases h
          exact lx_ifnonnull_r d (stgt_ok ht) (sisR_ok hv) (sOne_get hall (List.mem_singleton.mpr rfl) hG)
        · cases h
      · cases h
  · split at h
    · rename_i hx
      split at h
      · rename_i v hv
        split at h
        · rename_i l hl
          cases h
          obtain ⟨q, h1, h2, h3⟩ := sconc_ok hG hl
          have k := sOne_get hall (List.mem_map.mpr ⟨q, h1, rfl⟩) h2
          refine lx_iinc d (by rw [sget_ok hv, h3]) rfl hx ?_ k
          rw [← sput1_ok]; rfl
        · cases h
      · cases h
    · cases h
  · split at h
    · cases h
      exact lx_i2l d (sOne_get hall (List.mem_singleton.mpr rfl) hG)
    · cases h
      exact lx_i2l d (sOne_get hall (List.mem_singleton.mpr rfl) hG)
    · cases h
  · split at h
    · cases h
      exact lx_i2c d (sOne_get hall (List.mem_singleton.mpr rfl) hG)
    · split at h
      · rename_i a0 S1 a ha _ k hk
        cases h
        obtain ⟨x, y, h1, h2, h3⟩ := hdv _ _ _ _ hk
        have k1 := sOne_get hall (List.mem_singleton.mpr rfl) hG
        refine cast (congrArg (fun z => LX TT cl X mi fr lo P PX KC KS pc (sdL ρ L) (z :: sdS ρ _) (sdM ρ M)) h1.symm) (lx_i2c d ?_)
        refine cast (congrArg (fun z => LX TT cl X mi fr lo P PX KC KS (pc + 1) (sdL ρ L) (.int z :: sdS ρ _) (sdM ρ M)) h3) k1
      · cases h
  · split at h
    · cases h
      exact lx_lcmp d (sOne_get hall (List.mem_singleton.mpr rfl) hG)
    · split at h
      · rename_i hjk
        cases h
        subst hjk
        refine lx_lcmp d ?_
        rw [show ∀ x : Int64, lg_cmp x x = 0 from fun x => by unfold lg_cmp; simp]
        exact sOne_get hall (List.mem_singleton.mpr rfl) hG
      · cases h
    · cases h
  · split at h
    · rename_i hc
      cases h
      exact lx_dup d (by rw [scat_eq]; exact hc) (sOne_get hall (List.mem_singleton.mpr rfl) hG)
    · cases h
  · split at h
    · rename_i hc
      cases h
      exact lx_pop d (by rw [scat_eq]; exact hc) (sOne_get hall (List.mem_singleton.mpr rfl) hG)
    · cases h
  · split at h
    · rename_i hc
      cases h
      exact lx_dup2 d (by rw [scat_eq]; exact hc.1) (by rw [scat_eq]; exact hc.2) (sOne_get hall (List.mem_singleton.mpr rfl) hG)
    · cases h
  · split at h
    · rename_i hc
      cases h
      exact lx_dup_x1 d (by rw [scat_eq]; exact hc.1) (by rw [scat_eq]; exact hc.2) (sOne_get hall (List.mem_singleton.mpr rfl) hG)
    · cases h
  · split at h
    · rename_i a S l hl
      obtain ⟨q, h1, h2, h3⟩ := sconc_ok hG hl
      have k := sstA_table (dv := dv) d h q h1 h2 rfl hall
      rw [← h3] at k
      exact k
    · cases h
  · cases h
end SX3
end
section
section SX4
def snar (ty : FieldType) (v : sV) : Bool := match v with
  | .inl v => decide (narrow ty v = v)
  | .inr (false, _) => decide (ty = .int)
  | .inr (true, _) => decide (ty = .long)
theorem snar_ok {ρ : Nat → Int32} {ty : FieldType} {v : sV} (h : snar ty v = true) : narrow ty (sd ρ v) = sd ρ v := by
  rcases v with v | ⟨_ | _, k⟩
  · exact of_decide_eq_true h
  · have : ty = .int := of_decide_eq_true h
    subst this; rfl
  · have : ty = .long := of_decide_eq_true h
    subst this; rfl
def sfit (ty : FieldType) (v : sV) : Bool := match v with
  | .inl v => mj_fits ty v
  | .inr (false, _) => decide (ty = .int)
  | .inr (true, _) => decide (ty = .long)
theorem sfit_ok {ρ : Nat → Int32} {ty : FieldType} {v : sV} (h : sfit ty v = true) : mj_fits ty (sd ρ v) = true := by
  rcases v with v | ⟨_ | _, k⟩
  · exact h
  · have : ty = .int := of_decide_eq_true h
    subst this; rfl
  · have : ty = .long := of_decide_eq_true h
    subst this; rfl
-- ===== what a site gives =====
def kPush (TT : List Cond) (cl : List vw_C) (X : XT) (mi : MI) (pc len : Nat) (v : Value) : Prop := ∀ (fr lo : Nat) (P : Option Value → mH → Prop) (PX : String → mH → Prop) (kc ks : Nat) (L : List (Nat × Value)) (S : List Value) (M : mH),
  LX TT cl X mi fr lo P PX kc ks (pc + len) L (v :: S) M → LX TT cl X mi fr lo P PX kc ks pc L S M
def kGet (TT : List Cond) (cl : List vw_C) (X : XT) (mi : MI) (pc ci k : Nat) : Prop := ∀ (fr lo : Nat) (P : Option Value → mH → Prop) (PX : String → mH → Prop) (kc ks : Nat) (L : List (Nat × Value)) (S : List Value) (M : mH) (i : Nat) (fs : List Value) (v : Value),
  M[i]? = some (.inr (ci, fs)) → fs[k]? = some v → LX TT cl X mi fr lo P PX kc ks (pc + 3) L (v :: S) M → LX TT cl X mi fr lo P PX kc ks pc L (.ref i :: S) M
def kPut (TT : List Cond) (cl : List vw_C) (X : XT) (mi : MI) (pc ci k : Nat) (ty : FieldType) : Prop := ∀ (fr lo : Nat) (P : Option Value → mH → Prop) (PX : String → mH → Prop) (kc ks : Nat) (L : List (Nat × Value)) (S : List Value) (M : mH) (i : Nat) (fs : List Value) (v : Value),
  M[i]? = some (.inr (ci, fs)) → k < fs.length → narrow ty v = v → mj_fits ty v = true → LX TT cl X mi fr lo P PX kc ks (pc + 3) L S (M.set i (.inr (ci, fs.set k v))) → LX TT cl X mi fr lo P PX kc ks pc L (v :: .ref i :: S) M
def kNew (TT : List Cond) (cl : List vw_C) (X : XT) (mi : MI) (pc ci N : Nat) (fs : List Value) : Prop := ∀ (fr lo : Nat) (P : Option Value → mH → Prop) (PX : String → mH → Prop) (kc ks : Nat) (L : List (Nat × Value)) (S : List Value) (M : mH),
  LX TT cl X mi fr lo P PX kc ks (pc + 3) L (.ref M.length :: S) (M ++ [.inr (ci, fs)]) → LX TT cl X mi fr lo P PX (kc + 1) (ks + N) pc L S M
def kAnew (TT : List Cond) (cl : List vw_C) (X : XT) (mi : MI) (pc : Nat) (ty : FieldType) : Prop := ∀ (fr lo : Nat) (P : Option Value → mH → Prop) (PX : String → mH → Prop) (kc ks : Nat) (L : List (Nat × Value)) (S : List Value) (M : mH) (n : Int32),
  ¬ n < 0 → n.toNatClampNeg ≤ 67108864 → LX TT cl X mi fr lo P PX kc ks (pc + 3) L (.ref M.length :: S) (M ++ [.inl (ty, (n.toNatClampNeg, .inr (.inr (.inr (.inr (fun _ => none))))))]) → LX TT cl X mi fr lo P PX (kc + 1) (ks + n.toNatClampNeg) pc L (.int n :: S) M
def kMul (TT : List Cond) (cl : List vw_C) (X : XT) (mi : MI) (pc : Nat) (vs : List Value) (nw : Nat → List sE) (cc ss : Nat) : Prop := ∀ (ρ : Nat → Int32) (fr lo : Nat) (P : Option Value → mH → Prop) (PX : String → mH → Prop) (kc ks : Nat) (L : List (Nat × Value)) (S : List Value) (M : mH),
  LX TT cl X mi fr lo P PX kc ks (pc + 4) L (.ref M.length :: S) (M ++ sdM ρ (nw M.length)) → LX TT cl X mi fr lo P PX (kc + cc) (ks + ss) pc L (vs ++ S) M
def kCast (TT : List Cond) (cl : List vw_C) (X : XT) (mi : MI) (pc ci : Nat) : Prop := ∀ (fr lo : Nat) (P : Option Value → mH → Prop) (PX : String → mH → Prop) (kc ks : Nat) (L : List (Nat × Value)) (S : List Value) (M : mH) (i : Nat) (fs : List Value),
  M[i]? = some (.inr (ci, fs)) → LX TT cl X mi fr lo P PX kc ks (pc + 3) L (.ref i :: S) M → LX TT cl X mi fr lo P PX kc ks pc L (.ref i :: S) M
def kAst (TT : List Cond) (cl : List vw_C) (X : XT) (mi : MI) (pc ci : Nat) (ty : FieldType) : Prop := ∀ (fr lo : Nat) (P : Option Value → mH → Prop) (PX : String → mH → Prop) (kc ks : Nat) (L : List (Nat × Value)) (S : List Value) (M : mH) (i k n : Nat) (j : Int32) (f : Nat → Option Nat) (fs : List Value),
  M[i]? = some (.inl (ty, (n, .inr (.inr (.inr (.inr f)))))) → M[k]? = some (.inr (ci, fs)) → vp_in j n →
    LX TT cl X mi fr lo P PX kc ks (pc + 1) L S (M.set i (.inl (ty, (n, .inr (.inr (.inr (.inr (va_up f j.toNatClampNeg (some k)))))))))  → LX TT cl X mi fr lo P PX kc ks pc L (.ref k :: .int j :: .ref i :: S) M
def kNw (TT : List Cond) : Prop := Cond.arrayClass .int ∈ TT ∧ Cond.arrayClass .boolean ∈ TT ∧ Cond.arrayClass .char ∈ TT ∧ Cond.arrayClass .long ∈ TT ∧ Cond.arrayClass .double ∈ TT
def kLen (TT : List Cond) (cl : List vw_C) (X : XT) (ρ : Nat → Int32) (slen : Nat → Option sV) : Prop := ∀ (k : Nat) (v : sV), slen k = some v → ∀ (mi : MI) (fr lo : Nat) (P : Option Value → mH → Prop) (PX : String → mH → Prop) (kc ks pc : Nat) (L : List (Nat × Value)) (S : List Value) (M : mH), decode mi.2.1 pc = .ok (.arraylength, 1) →
  LX TT cl X mi fr lo P PX kc ks (pc + 1) L (sd ρ v :: S) M → LX TT cl X mi fr lo P PX kc ks pc L (.retAddr k :: S) M
/-- the known reference 1 is the script: its length is the symbol 8, its ints are the symbols 0 to 5 -/
def kScr (X : XT) (ρ : Nat → Int32) : Prop := ∃ (L9 : Nat) (xs : Nat → Int32), mj_XI X 1 L9 xs ∧ L9 ≤ 6 ∧ (ρ 8).toInt = (L9 : Int) ∧ ∀ j : Nat, j < 6 → ρ j = xs j
theorem isReference_ok {ty : FieldType} (h : ty.isReference = true) : (∃ n, ty = .object n) ∨ ∃ t, ty = .array t := by
  cases ty <;> first | (cases h; done) | exact Or.inl ⟨_, rfl⟩ | exact Or.inr ⟨_, rfl⟩
variable {TT : List Cond} {cl : List vw_C} {X : XT} {mi : MI} {fr lo : Nat} {P : Option Value → mH → Prop} {PX : String → mH → Prop}
/-- an element of an array of references, of arrays too -/
theorem lx_aald {kc ks pc : Nat} {L : List (Nat × Value)} {S : List Value} {M : mH} {i n : Nat} {j : Int32} {ty : FieldType} {f : Nat → Option Nat} (hty : ty.isReference = true) (d : decode mi.2.1 pc = .ok (.aaload, 1)) (hM : M[i]? = some (.inl (ty, n, .inr (.inr (.inr (.inr f)))))) (hin : vp_in j n)
    (kk : LX TT cl X mi fr lo P PX kc ks (pc + 1) L (va_rf (f j.toNatClampNeg) :: S) M) : LX TT cl X mi fr lo P PX kc ks pc L (.int j :: .ref i :: S) M := by
  intro p l e R s m args below meth c Qc XC free D sp A as0 F kq kx as L1 S1 H locs cells slots ls h0 hW hS hl hL hSt hc hs
  have h9 := mj_al_cons hSt
  clear hSt
  obtain ⟨_, S1, rfl, rfl, hSt⟩ := h9
  have h9 := mj_al_cons hSt
  clear hSt
  obtain ⟨_, S1, rfl, ⟨a, ha, rfl⟩, hSt⟩ := h9
  have hW0 := hW
  obtain ⟨ws, tys, hK, hP, hD, hr⟩ := hW
  obtain ⟨cA, t0, y, h1, h2, h3⟩ := mj_arr hr ha hM
  obtain ⟨g, rfl, h4⟩ := mj_ar_q h3
  have hlt : j.toNatClampNeg < n := Nat.not_le.mp fun q => hin (Or.inr q)
  exact W.aald (v := va_rf (g j.toNatClampNeg)) (ty := ty) F.1 F.2.1 (hP i _ h1) ((hK.2 t0 _ h2).1 n (fun j => va_rf (g j))) hty (fun q => by cases q) (by show ¬ (j < 0 ∨ (arrV _ _ _).slots.size ≤ _); rw [arrV_size]; exact hin) (by show (arrV _ _ _).slots[_]? = _; rw [arrV_read _ _ hlt]) rfl rfl d
    (kk p l e R s m args below meth c Qc XC free D sp A as0 F kq kx as L1 _ H locs cells slots ls h0 hW0 hS hl hL ⟨mj_qr_rf (h4 _), hSt⟩ hc hs)
def sarr (M : List sE) (r : sV) : Option (Nat × FieldType × Nat × Nat × List (Nat × sV)) := match r with
  | .inl (.ref i) => match M[i]? with
    | some (.inr (ty, n, k, us)) => some (i, ty, n, k, us)
    | _ => none
  | _ => none
theorem sarr_ok {M : List sE} {r : sV} {q : Nat × FieldType × Nat × Nat × List (Nat × sV)} (h : sarr M r = some q) : r = .inl (.ref q.1) ∧ M[q.1]? = some (.inr q.2) := by
  unfold sarr at h
  split at h
  · split at h
    · rename_i hk
      cases h
      exact ⟨rfl, hk⟩
    · cases h
  · cases h
def sobj (M : List sE) (r : sV) : Option (Nat × Nat × List sV) := match r with
  | .inl (.ref i) => match M[i]? with
    | some (.inl (ci, fs)) => some (i, ci, fs)
    | _ => none
  | _ => none
theorem sobj_ok {M : List sE} {r : sV} {q : Nat × Nat × List sV} (h : sobj M r = some q) : r = .inl (.ref q.1) ∧ M[q.1]? = some (.inl q.2) := by
  unfold sobj at h
  split at h
  · split at h
    · rename_i hk
      cases h
      exact ⟨rfl, hk⟩
    · cases h
  · cases h
def svin (x : Int32) (n : Nat) : Bool := decide (¬ (x < 0 ∨ n ≤ x.toNatClampNeg))
def skn (t : ClassFile.ArrayType) : Option (FieldType × Nat) := match t with
  | .int => some (.int, 0)
  | .boolean => some (.boolean, 0)
  | .char => some (.char, 0)
  | .long => some (.long, 1)
  | .double => some (.double, 2)
  | _ => none
/-- the instructions of the heap -/
def sstH (slen : Nat → Option sV) (mul : Nat → Option (List Value × (Nat → List sE) × Nat × Nat)) (i : Instr) (len : Nat) (inf : sI) (G : sG) (pc : Nat) (L : List (Nat × sV)) (S : List sV) (M : List sE) : Option (List sT) := match i, len, S with
  | .getfield _, 3, r :: S => match sobj M r with
    | some q => if q.2.1 = inf.2.1 then (match q.2.2[inf.2.2.1]? with
      | some v => some [((G, pc + 3, L, v :: S, M), 0, 0)]
      | none => none) else none
    | none => none
  | .putfield _, 3, v :: r :: S => match sobj M r with
    | some q => if q.2.1 = inf.2.1 ∧ inf.2.2.1 < q.2.2.length ∧ snar inf.2.2.2.2.1 v = true ∧ sfit inf.2.2.2.2.1 v = true then some [((G, pc + 3, L, S, M.set q.1 (.inl (q.2.1, q.2.2.set inf.2.2.1 v))), 0, 0)] else none
    | none => none
  | .new _, 3, S => if inf.1 = 1 then some [((G, pc + 3, L, .inl (.ref M.length) :: S, M ++ [.inl (inf.2.1, inf.2.2.2.2.2.map .inl)]), 1, inf.2.2.1)] else none
  | .checkcast _, 3, r :: S => match sobj M r with
    | some q => if q.2.1 = inf.2.1 then some [((G, pc + 3, L, r :: S, M), 0, 0)] else none
    | none => none
  | .anewarray _, 3, n :: S => match n with
    | .inl (.int x) => if ¬ x < 0 ∧ x.toNatClampNeg ≤ 67108864 then some [((G, pc + 3, L, .inl (.ref M.length) :: S, M ++ [.inr (inf.2.2.2.2.1, x.toNatClampNeg, 3, [])]), 1, x.toNatClampNeg)] else none
    | _ => none
  | .newarray t, 2, n :: S => match n, skn t with
    | .inl (.int x), some q => if ¬ x < 0 ∧ x.toNatClampNeg ≤ 67108864 then some [((G, pc + 2, L, .inl (.ref M.length) :: S, M ++ [.inr (q.1, x.toNatClampNeg, q.2, [])]), 1, x.toNatClampNeg)] else none
    | _, _ => none
  | .multianewarray _ _, 4, S => match mul pc with
    | some w => if S.take w.1.length = w.1.map .inl then some [((G, pc + 4, L, .inl (.ref M.length) :: S.drop w.1.length, M ++ w.2.1 M.length), w.2.2.1, w.2.2.2)] else none
    | none => none
  | .arraylength, 1, r :: S => match r with
    | .inl (.retAddr k) => match slen k with
      | some v => some [((G, pc + 1, L, v :: S, M), 0, 0)]
      | none => none
    | r => match sarr M r with
      | some q => some [((G, pc + 1, L, .inl (.int (Int32.ofNat q.2.2.1)) :: S, M), 0, 0)]
      | none => none
  | .iaload, 1, j :: r :: S => match j with
    | .inl (.int x) => (match r with
      | .inl (.retAddr 1) => match G[8]? with
        | some b => if ¬ x < 0 ∧ x.toNatClampNeg < 6 ∧ (x.toNatClampNeg : Int) < b.1 then some [((G, pc + 1, L, .inr (false, x.toNatClampNeg) :: S, M), 0, 0)] else none
        | none => none
      | r => match sarr M r with
        | some (_, .int, n, 0, us) => if svin x n = true ∧ sint (slook (.inl (.int 0)) x.toNatClampNeg us) = true then some [((G, pc + 1, L, slook (.inl (.int 0)) x.toNatClampNeg us :: S, M), 0, 0)] else none
        | _ => none)
    | j => match sconc 70 G j with
      | some l => some (l.map (fun q => ((q.2, pc, L, .inl (.int q.1) :: r :: S, M), 0, 0)))
      | none => none
  | .laload, 1, j :: r :: S => match j with
    | .inl (.int x) => (match sarr M r with
      | some (_, .long, n, 1, us) => if svin x n = true ∧ svty 1 (slook (.inl (.long 0)) x.toNatClampNeg us) = true then some [((G, pc + 1, L, slook (.inl (.long 0)) x.toNatClampNeg us :: S, M), 0, 0)] else none
      | _ => none)
    | _ => none
  | .aaload, 1, j :: r :: S => match j with
    | .inl (.int x) => (match sarr M r with
      | some (_, ty, n, 3, us) => (match slook (.inl .null) x.toNatClampNeg us with
        | .inl (.ref w) => if svin x n = true ∧ ty.isReference = true then some [((G, pc + 1, L, .inl (.ref w) :: S, M), 0, 0)] else none
        | .inl .null => if svin x n = true ∧ ty.isReference = true then some [((G, pc + 1, L, .inl .null :: S, M), 0, 0)] else none
        | _ => none)
      | _ => none)
    | j => match sconc 70 G j with
      | some l => some (l.map (fun q => ((q.2, pc, L, .inl (.int q.1) :: r :: S, M), 0, 0)))
      | none => none
  | .iastore, 1, v :: j :: r :: S => match j with
    | .inl (.int x) => (match sarr M r with
      | some (i, .int, n, 0, us) => if svin x n = true ∧ sint v = true then some [((G, pc + 1, L, S, M.set i (.inr (.int, n, 0, (x.toNatClampNeg, v) :: us))), 0, 0)] else none
      | _ => none)
    | j => match sconc 70 G j with
      | some l => some (l.map (fun q => ((q.2, pc, L, v :: .inl (.int q.1) :: r :: S, M), 0, 0)))
      | none => none
  | .lastore, 1, v :: j :: r :: S => match j with
    | .inl (.int x) => (match sarr M r with
      | some (i, .long, n, 1, us) => if svin x n = true ∧ svty 1 v = true then some [((G, pc + 1, L, S, M.set i (.inr (.long, n, 1, (x.toNatClampNeg, v) :: us))), 0, 0)] else none
      | _ => none)
    | _ => none
  | .castore, 1, v :: j :: r :: S => match j, v with
    | .inl (.int x), .inl (.int y) => (match sarr M r with
      | some (i, .char, n, 0, us) => if svin x n = true then some [((G, pc + 1, L, S, M.set i (.inr (.char, n, 0, (x.toNatClampNeg, .inl (.int (vp_nar .char y))) :: us))), 0, 0)] else none
      | _ => none)
    | _, _ => none
  | .aastore, 1, v :: j :: r :: S => match j, sobj M v with
    | .inl (.int x), some o => (match sarr M r with
      | some (i, ty, n, 3, us) => if svin x n = true ∧ o.2.1 = inf.2.1 ∧ ty = inf.2.2.2.2.1 then some [((G, pc + 1, L, S, M.set i (.inr (ty, n, 3, (x.toNatClampNeg, .inl (.ref o.1)) :: us))), 0, 0)] else none
      | _ => none)
    | _, _ => none
  | .if_acmp op off, 3, b :: a :: S => match a, b, stgt pc off with
    | .inl (.retAddr j), .inl (.retAddr k), some t => if j = k ∧ j ≠ 0 ∧ inf.1 = 1 then some [((G, (if op = .eq then t else pc + 3), L, S, M), 0, 0)] else none
    | _, _, _ => none
  | .ldc _, 2, S => match inf.2.2.2.2.2 with | [v] => some [((G, pc + 2, L, .inl v :: S, M), 0, 0)] | _ => none
  | .ldc_w _, 3, S => match inf.2.2.2.2.2 with | [v] => some [((G, pc + 3, L, .inl v :: S, M), 0, 0)] | _ => none
  | .ldc2_w _, 3, S => match inf.2.2.2.2.2 with | [v] => some [((G, pc + 3, L, .inl v :: S, M), 0, 0)] | _ => none
  | .getstatic _, 3, S => match inf.2.2.2.2.2 with | [v] => some [((G, pc + 3, L, .inl v :: S, M), 0, 0)] | _ => none
  | _, _, _ => none
/-- what the site of an instruction of the heap has to give -/
def sOKH (TT : List Cond) (cl : List vw_C) (X : XT) (mul : Nat → Option (List Value × (Nat → List sE) × Nat × Nat)) (mi : MI) (pc : Nat) (i : Instr) (inf : sI) : Prop := match i with
  | .getfield _ => kGet TT cl X mi pc inf.2.1 inf.2.2.1
  | .putfield _ => kPut TT cl X mi pc inf.2.1 inf.2.2.1 inf.2.2.2.2.1
  | .new _ => inf.1 = 1 → kNew TT cl X mi pc inf.2.1 inf.2.2.1 inf.2.2.2.2.2
  | .checkcast _ => kCast TT cl X mi pc inf.2.1
  | .anewarray _ => kAnew TT cl X mi pc inf.2.2.2.2.1
  | .multianewarray _ _ => ∀ w, mul pc = some w → kMul TT cl X mi pc w.1 w.2.1 w.2.2.1 w.2.2.2
  | .aastore => kAst TT cl X mi pc inf.2.1 inf.2.2.2.2.1
  | .ldc _ => ∀ v, inf.2.2.2.2.2 = [v] → kPush TT cl X mi pc 2 v
  | .ldc_w _ => ∀ v, inf.2.2.2.2.2 = [v] → kPush TT cl X mi pc 3 v
  | .ldc2_w _ => ∀ v, inf.2.2.2.2.2 = [v] → kPush TT cl X mi pc 3 v
  | .getstatic _ => ∀ v, inf.2.2.2.2.2 = [v] → kPush TT cl X mi pc 3 v
  | _ => True
theorem lx_acmp_same {kc ks pc k : Nat} {L : List (Nat × Value)} {S : List Value} {M : mH} {op : ClassFile.ACond} {off : Int} {tgt : Nat} (d : decode mi.2.1 pc = .ok (.if_acmp op off, 3)) (ht : (pc : Int) + off = (tgt : Int)) (h0k : ¬ k = 0)
    (kk : LX TT cl X mi fr lo P PX kc ks (if op = .eq then tgt else pc + 3) L S M) : LX TT cl X mi fr lo P PX kc ks pc L (.retAddr k :: .retAddr k :: S) M := by
  intro p l e R s m args below meth c Qc XC free D sp A as0 F kq kx as L1 S1 H locs cells slots ls h0 hW hS hl hL hSt hc hs
  have h9 := mj_al_cons hSt
  clear hSt
  obtain ⟨w, S1, rfl, wr, hSt⟩ := h9
  have h9 := mj_al_cons hSt
  clear hSt
  obtain ⟨w1, S1, rfl, wr1, hSt⟩ := h9
  rw [mj_rk h0k wr, mj_rk h0k wr1]
  have k1 := kk p l e R s m args below meth c Qc XC free D sp A as0 F kq kx as L1 _ H locs cells slots ls h0 hW hS hl hL hSt hc hs
  cases op with
  | eq => exact lv_acmp_eq (rx := some (sp k)) (ry := some (sp k)) F.1 F.2.1 d ht (fun _ => k1) (fun h => absurd rfl h)
  | ne => exact lv_acmp_ne (rx := some (sp k)) (ry := some (sp k)) F.1 F.2.1 d ht (fun h => absurd rfl h) (fun _ => k1)
end SX4
end
section
section SX5
variable {TT : List Cond} {cl : List vw_C} {X : XT} {mi : MI} {fr lo : Nat} {P : Option Value → mH → Prop} {PX : String → mH → Prop} {KC KS : Nat} {ρ : Nat → Int32}
theorem svin_ok {x : Int32} {n : Nat} (h : svin x n = true) : vp_in x n := by
  unfold vp_in
  exact of_decide_eq_true h
theorem sint_eq {v : sV} (h : sint v = true) : sd ρ v = .int (s_i (sd ρ v)) := by
  obtain ⟨y, hy⟩ := sint_ok (ρ := ρ) h
  rw [hy]; rfl
theorem slng_eq {v : sV} (h : svty 1 v = true) : sd ρ v = .long (s_l (sd ρ v)) := by
  obtain ⟨y, hy⟩ := vty_1 (svty_ok (ρ := ρ) h)
  rw [hy]; rfl
theorem sld_i {j : Nat} {us : List (Nat × sV)} (h : sint (slook (.inl (.int 0)) j us) = true) : sd ρ (slook (.inl (.int 0)) j us) = .int (sfi ρ us j) := by
  rw [sfi_at]; exact sint_eq h
theorem sld_l {j : Nat} {us : List (Nat × sV)} (h : svty 1 (slook (.inl (.long 0)) j us) = true) : sd ρ (slook (.inl (.long 0)) j us) = .long (sfl ρ us j) := by
  rw [sfl_at]; exact slng_eq h
theorem sstut {G : sG} {pc : Nat} {L : List (Nat × sV)} {M : List sE} {j : sV} {l : List (Int32 × sG)} {f : sV → List sV} (hf : ∀ a b, sd ρ a = sd ρ b → sdS ρ (f a) = sdS ρ (f b)) (hG : sSat ρ G) (hl : sconc 70 G j = some l)
    (hall : ∀ t, t ∈ l.map (fun q => (((q.2, pc, L, f (.inl (.int q.1)), M), 0, 0) : sT)) → sOne TT cl X mi fr lo P PX ρ KC KS t) : LX TT cl X mi fr lo P PX KC KS pc (sdL ρ L) (sdS ρ (f j)) (sdM ρ M) := by
  obtain ⟨q, h1, h2, h3⟩ := sconc_ok hG hl
  have k := sOne_get hall (List.mem_map.mpr ⟨q, h1, rfl⟩) h2
  rw [hf j (.inl (.int q.1)) h3]
  exact k
theorem sstH_ok {slen : Nat → Option sV} {mul : Nat → Option (List Value × (Nat → List sE) × Nat × Nat)} {i : Instr} {len : Nat} {inf : sI} {G : sG} {pc : Nat} {L : List (Nat × sV)} {S : List sV} {M : List sE} {r : List sT}
    (hnw : kNw TT) (hlen : kLen TT cl X ρ slen) (hscr : kScr X ρ) (hG : sSat ρ G) (h : sstH slen mul i len inf G pc L S M = some r) (d : decode mi.2.1 pc = .ok (i, len)) (hok : sOKH TT cl X mul mi pc i inf) (hall : ∀ t, t ∈ r → sOne TT cl X mi fr lo P PX ρ KC KS t) :
    LX TT cl X mi fr lo P PX KC KS pc (sdL ρ L) (sdS ρ S) (sdM ρ M) := by
  unfold sstH at h
  split at h
  · -- getfield
    split at h
    · rename_i q hq
      split at h
      · rename_i hci
        split at h
        · rename_i v hv
          cases h
          obtain ⟨rfl, hM⟩ := sobj_ok hq
          have k := sOne_get hall (List.mem_singleton.mpr rfl) hG
          have hM1 := sdM_at (ρ := ρ) hM
          rw [show q.2 = (inf.2.1, q.2.2) by rw [← hci]] at hM1
          exact hok fr lo P PX KC KS _ _ _ q.1 (q.2.2.map (sd ρ)) (sd ρ v) hM1 (by rw [List.getElem?_map, hv]; rfl) k
        · cases h
      · cases h
    · cases h
  · -- putfield
    split at h
    · rename_i q hq
      split at h
      · rename_i hc
        cases h
        obtain ⟨rfl, hM⟩ := sobj_ok hq
        have k := sOne_get hall (List.mem_singleton.mpr rfl) hG
        have hM1 := sdM_at (ρ := ρ) hM
        rw [show q.2 = (inf.2.1, q.2.2) by rw [← hc.1]] at hM1
        refine hok fr lo P PX KC KS _ _ _ q.1 (q.2.2.map (sd ρ)) (sd ρ _) hM1 (by rw [List.length_map]; exact hc.2.1) (snar_ok hc.2.2.1) (sfit_ok hc.2.2.2) ?_
        rw [sdM_set] at k
        rw [← List.map_set, ← hc.1]
        exact k
      · cases h
    · cases h
  · -- new
    split at h
    · rename_i hc
      cases h
      obtain ⟨kc, ks, h1, h2, k⟩ := hall _ (List.mem_singleton.mpr rfl) hG
      refine lx_room h1 h2 ?_
      refine hok hc fr lo P PX kc ks _ _ _ ?_
      rw [sdM_len]
      dsimp only at k
      rw [sdM_app] at k
      have e : se ρ (.inl (inf.2.1, inf.2.2.2.2.2.map .inl)) = .inr (inf.2.1, inf.2.2.2.2.2) := by
        show Sum.inr (inf.2.1, (inf.2.2.2.2.2.map Sum.inl).map (sd ρ)) = _
        rw [List.map_map]
        congr 2
        exact (List.map_congr_left (fun _ _ => rfl)).trans (List.map_id _)
      rw [show sdM ρ [.inl (inf.2.1, inf.2.2.2.2.2.map .inl)] = [.inr (inf.2.1, inf.2.2.2.2.2)] by rw [← e]; rfl] at k
      exact k
    · cases h
  · -- checkcast
    split at h
    · rename_i q hq
      split at h
      · rename_i hci
        cases h
        obtain ⟨rfl, hM⟩ := sobj_ok hq
        have k := sOne_get hall (List.mem_singleton.mpr rfl) hG
        have hM1 := sdM_at (ρ := ρ) hM
        rw [show q.2 = (inf.2.1, q.2.2) by rw [← hci]] at hM1
        exact hok fr lo P PX KC KS _ _ _ q.1 (q.2.2.map (sd ρ)) hM1 k
      · cases h
    · cases h
  · -- anewarray
    split at h
    · split at h
      · rename_i hc
        cases h
        obtain ⟨kc, ks, h1, h2, k⟩ := hall _ (List.mem_singleton.mpr rfl) hG
        refine lx_room h1 h2 ?_
        refine hok fr lo P PX kc ks _ _ _ _ hc.1 hc.2 ?_
        rw [sdM_len]
        dsimp only at k
        rw [sdM_app] at k
        exact k
      · cases h
    · cases h
  · -- newarray
    split at h
    · rename_i x q hq
      split at h
      · rename_i hc
        cases h
        obtain ⟨kc, ks, h1, h2, k⟩ := hall _ (List.mem_singleton.mpr rfl) hG
        refine lx_room h1 h2 ?_
        dsimp only at k
        rw [sdM_app] at k
        rw [show M.length = (sdM ρ M).length from sdM_len.symm] at k
        unfold skn at hq
        split at hq
        · cases hq; exact lx_newarray_int d hnw.1 hc.1 rfl hc.2 k
        · cases hq; exact lx_newarray_boolean d hnw.2.1 hc.1 rfl hc.2 k
        · cases hq; exact lx_newarray_char d hnw.2.2.1 hc.1 rfl hc.2 k
        · cases hq; exact lx_newarray_long d hnw.2.2.2.1 hc.1 rfl hc.2 k
        · cases hq; exact lx_newarray_double d hnw.2.2.2.2 hc.1 rfl hc.2 k
        · cases hq
      · cases h
    · cases h
  · -- multianewarray
    split at h
    · rename_i w hw
      split at h
      · rename_i hc
        cases h
        obtain ⟨kc, ks, h1, h2, k⟩ := hall _ (List.mem_singleton.mpr rfl) hG
        refine lx_room h1 h2 ?_
        dsimp only at k
        rw [sdM_app] at k
        rw [show M.length = (sdM ρ M).length from sdM_len.symm] at k
        have k2 := hok w hw ρ fr lo P PX kc ks _ _ _ k
        have e : sdS ρ (w.1.map .inl) = w.1 := by
          unfold sdS
          rw [List.map_map]
          exact (List.map_congr_left (fun _ _ => rfl)).trans (List.map_id _)
        have e3 : ∀ S : List sV, S.take w.1.length = w.1.map .inl → w.1 ++ sdS ρ (S.drop w.1.length) = sdS ρ S := by
          intro S hc
          conv => lhs; arg 1; rw [← e]
          rw [← hc, ← sdS_app, List.take_append_drop]
        exact cast (congrArg (fun z => LX TT cl X mi fr lo P PX (kc + w.2.2.1) (ks + w.2.2.2) pc (sdL ρ L) z (sdM ρ M)) (e3 _ hc)) k2
      · cases h
    · cases h
  · -- arraylength
    split at h
    · split at h
      · rename_i v hv
        cases h
        exact hlen _ _ hv mi fr lo P PX KC KS _ _ _ _ d (sOne_get hall (List.mem_singleton.mpr rfl) hG)
      · cases h
    · split at h
      · rename_i q hq
        cases h
        obtain ⟨rfl, hM⟩ := sarr_ok hq
        have k := sOne_get hall (List.mem_singleton.mpr rfl) hG
        have hM1 := sdM_at (ρ := ρ) hM
        obtain ⟨a, ty, n, kk, us⟩ := q
        match kk, hM1, k with
        | 0, hM1, k => exact lx_arraylength d hM1 k
        | 1, hM1, k => exact lx_arraylength d hM1 k
        | 2, hM1, k => exact lx_arraylength d hM1 k
        | n + 3, hM1, k => exact lx_arraylength d hM1 k
      · cases h
  · -- iaload
    split at h
    · split at h
      · split at h
        · rename_i x b hb
          split at h
          · rename_i hc
            cases h
            obtain ⟨L9, xs, hXI, h6, hl, hx⟩ := hscr
            have k := sOne_get hall (List.mem_singleton.mpr rfl) hG
            have h8 := (hG 8 b hb).1
            refine lx_xload d (by decide) hXI (fun q => ?_) ?_
            · rcases q with q | q
              · exact hc.1 q
              · have := hc.2.2; omega
            · rw [← hx _ hc.2.1]; exact k
          · cases h
        · cases h
      · split at h
        · rename_i i n us hq
          split at h
          · rename_i hc
            cases h
            obtain ⟨e, hM⟩ := sarr_ok hq
            subst e
            have k := sOne_get hall (List.mem_singleton.mpr rfl) hG
            have hM1 := sdM_at (ρ := ρ) hM
            refine lx_iaload d hM1 (svin_ok hc.1) ?_
            rw [← sld_i hc.2]
            exact k
          · cases h
        · cases h
    · split at h
      · rename_i l hl
        cases h
        exact sstut (f := fun z => z :: _ :: _) (fun a b hab => by simp only [sdS, List.map_cons, hab]) hG hl hall
      · cases h
  · -- laload
    split at h
    · split at h
      · rename_i i n us hq
        split at h
        · rename_i hc
          cases h
          obtain ⟨e, hM⟩ := sarr_ok hq
          subst e
          have k := sOne_get hall (List.mem_singleton.mpr rfl) hG
          have hM1 := sdM_at (ρ := ρ) hM
          refine lx_laload d hM1 (svin_ok hc.1) ?_
          rw [← sld_l hc.2]
          exact k
        · cases h
      · cases h
    · cases h
  · -- aaload
    split at h
    · split at h
      · rename_i i ty n us hq
        split at h
        · rename_i w hw
          split at h
          · rename_i hc
            cases h
            obtain ⟨e, hM⟩ := sarr_ok hq
            subst e
            have k := sOne_get hall (List.mem_singleton.mpr rfl) hG
            have hM1 := sdM_at (ρ := ρ) hM
            refine lx_aald hc.2 d hM1 (svin_ok hc.1) ?_
            rw [sfq_at, hw]
            exact k
          · cases h
        · rename_i hw
          split at h
          · rename_i hc
            cases h
            obtain ⟨e, hM⟩ := sarr_ok hq
            subst e
            have k := sOne_get hall (List.mem_singleton.mpr rfl) hG
            have hM1 := sdM_at (ρ := ρ) hM
            refine lx_aald hc.2 d hM1 (svin_ok hc.1) ?_
            rw [sfq_at, hw]
            exact k
          · cases h
        · cases h
      · cases h
    · split at h
      · rename_i l hl
        cases h
        exact sstut (f := fun z => z :: _ :: _) (fun a b hab => by simp only [sdS, List.map_cons, hab]) hG hl hall
      · cases h
  · -- iastore
    split at h
    · split at h
      · rename_i i n us hq
        split at h
        · rename_i hc
          cases h
          obtain ⟨e, hM⟩ := sarr_ok hq
          subst e
          have k := sOne_get hall (List.mem_singleton.mpr rfl) hG
          have hM1 := sdM_at (ρ := ρ) hM
          have hy := sint_eq (ρ := ρ) hc.2
          rw [sdM_set] at k
          have k2 := lx_iastore d hM1 (svin_ok hc.1) k
          rw [← hy] at k2
          exact k2
        · cases h
      · cases h
    · split at h
      · rename_i l hl
        cases h
        exact sstut (f := fun z => _ :: z :: _ :: _) (fun a b hab => by simp only [sdS, List.map_cons, hab]) hG hl hall
      · cases h
  · -- lastore
    split at h
    · split at h
      · rename_i i n us hq
        split at h
        · rename_i hc
          cases h
          obtain ⟨e, hM⟩ := sarr_ok hq
          subst e
          have k := sOne_get hall (List.mem_singleton.mpr rfl) hG
          have hM1 := sdM_at (ρ := ρ) hM
          have hy := slng_eq (ρ := ρ) hc.2
          rw [sdM_set] at k
          have k2 := lx_lastore d hM1 (svin_ok hc.1) k
          rw [← hy] at k2
          exact k2
        · cases h
      · cases h
    · cases h
  · -- castore
    split at h
    · split at h
      · rename_i i n us hq
        split at h
        · rename_i hc
          cases h
          obtain ⟨e, hM⟩ := sarr_ok hq
          subst e
          have k := sOne_get hall (List.mem_singleton.mpr rfl) hG
          have hM1 := sdM_at (ρ := ρ) hM
          rw [sdM_set] at k
          exact lx_castore d hM1 (svin_ok hc) k
        · cases h
      · cases h
    · cases h
  · -- aastore
    split at h
    · rename_i x o ho
      split at h
      · rename_i i ty n us hq
        split at h
        · rename_i hc
          cases h
          obtain ⟨e, hM⟩ := sarr_ok hq
          subst e
          obtain ⟨e, hO⟩ := sobj_ok ho
          subst e
          have k := sOne_get hall (List.mem_singleton.mpr rfl) hG
          have hM1 := sdM_at (ρ := ρ) hM
          have hO1 := sdM_at (ρ := ρ) hO
          rw [show o.2 = (inf.2.1, o.2.2) by rw [← hc.2.1]] at hO1
          obtain ⟨hc1, hc2, hc3⟩ := hc
          subst hc3
          rw [sdM_set] at k
          exact hok fr lo P PX KC KS _ _ _ _ _ _ _ _ _ hM1 hO1 (svin_ok hc1) k
        · cases h
      · cases h
    · cases h
  · -- if_acmp
    split at h
    · rename_i t ht
      split at h
      · rename_i hc
        cases h
        obtain ⟨rfl, h0, -⟩ := hc
        exact lx_acmp_same d (stgt_ok ht) h0 (sOne_get hall (List.mem_singleton.mpr rfl) hG)
      · cases h
    · cases h
  · split at h
    · rename_i v hv
      cases h
      exact hok _ hv fr lo P PX KC KS _ _ _ (sOne_get hall (List.mem_singleton.mpr rfl) hG)
    · cases h
  · split at h
    · rename_i v hv
      cases h
      exact hok _ hv fr lo P PX KC KS _ _ _ (sOne_get hall (List.mem_singleton.mpr rfl) hG)
    · cases h
  · split at h
    · rename_i v hv
      cases h
      exact hok _ hv fr lo P PX KC KS _ _ _ (sOne_get hall (List.mem_singleton.mpr rfl) hG)
    · cases h
  · split at h
    · rename_i v hv
      cases h
      exact hok _ hv fr lo P PX KC KS _ _ _ (sOne_get hall (List.mem_singleton.mpr rfl) hG)
    · cases h
  · cases h
end SX5
end
section
section SX6
def sone (dv : Nat → sV → sV → Option Nat) (slen : Nat → Option sV) (mul : Nat → Option (List Value × (Nat → List sE) × Nat × Nat)) (maxL : Nat) (i : Instr) (len : Nat) (inf : sI) (G : sG) (pc : Nat) (L : List (Nat × sV)) (S : List sV) (M : List sE) : Option (List sT) :=
  match sload i len with
  | some xt => match sget L xt.1 with
    | some v => if svty xt.2 v = true then some [((G, pc + len, L, v :: S, M), 0, 0)] else none
    | none => none
  | none =>
  match spush i len with
  | some v => some [((G, pc + len, L, .inl v :: S, M), 0, 0)]
  | none =>
  match sstore i len with
  | some xt => match S with
    | v :: S => if svty xt.2 v = true ∧ (xt.1 + 1 < maxL ∨ (xt.1 < maxL ∧ (xt.2 == 1 || xt.2 == 3) = false)) then some [((G, pc + len, sput xt.2 xt.1 v L, S, M), 0, 0)] else none
    | [] => none
  | none =>
  match sbo i with
  | some op => if len = 1 then (match S with
    | b :: a :: S => match sbinA dv G op a b with
      | some l => some (l.map (fun q => ((q.1, pc + 1, L, q.2 :: S, M), 0, 0)))
      | none => none
    | _ => none) else none
  | none =>
  match sstA dv maxL i len G pc L S M with
  | some r => some r
  | none => sstH slen mul i len inf G pc L S M
def sret (i : Instr) (len : Nat) (rt : Option FieldType) (S : List sV) : Option (Option sV) := match i, len, S, rt with
  | .ireturn, 1, [v], some ty => if snar ty v = true ∧ sint v = true then some (some v) else none
  | .lreturn, 1, [v], some .long => if svty 1 v = true then some (some v) else none
  | .freturn, 1, [v], some .float => if svty 2 v = true then some (some v) else none
  | .dreturn, 1, [v], some .double => if svty 3 v = true then some (some v) else none
  | .areturn, 1, [v], some (.object _) => if svty 4 v = true then some (some v) else none
  | .areturn, 1, [v], some (.array _) => if svty 4 v = true then some (some v) else none
  | .return_, 1, [], none => some none
  | _, _, _, _ => none
def sinv (i : Instr) (len : Nat) : Bool := match i, len with
  | .invokestatic _, 3 => true
  | .invokevirtual _, 3 => true
  | .invokespecial _, 3 => true
  | .invokeinterface _ _, 5 => true
  | _, _ => false
def sjoin : List (Option sR) → Option sR
  | [] => some ([], 0, 0)
  | none :: _ => none
  | some r :: l => match sjoin l with
    | none => none
    | some q => some (r.1 ++ q.1, max r.2.1 q.2.1, max r.2.2 q.2.2)
theorem sjoin_ok : ∀ {l : List (Option sR)} {q : sR}, sjoin l = some q → ∀ o, o ∈ l → ∃ r, o = some r ∧ (∀ f, f ∈ r.1 → f ∈ q.1) ∧ r.2.1 ≤ q.2.1 ∧ r.2.2 ≤ q.2.2 := by
  intro l
  induction l with
  | nil => intro q _ o ho; cases ho
  | cons o0 l ih =>
    intro q h o ho
    cases o0 with
    | none => cases h
    | some r =>
      unfold sjoin at h
      split at h
      · cases h
      · rename_i q1 h1
        cases h
        rcases List.mem_cons.mp ho with rfl | ho
        · exact ⟨r, rfl, fun f hf => List.mem_append_left _ hf, Nat.le_max_left _ _, Nat.le_max_left _ _⟩
        · obtain ⟨r1, e, k1, k2, k3⟩ := ih h1 o ho
          exact ⟨r1, e, fun f hf => List.mem_append_right _ (k1 f hf), Nat.le_trans k2 (Nat.le_max_right _ _), Nat.le_trans k3 (Nat.le_max_right _ _)⟩
def sadd (a b : Nat) (o : Option sR) : Option sR := match o with
  | none => none
  | some r => some (r.1, r.2.1 + a, r.2.2 + b)
def sexc (lf : sF) : Bool := match lf.2.1 with | .inl _ => false | .inr _ => true
def scont (rec : Nat → Nat → sC → Option sR) (hnd : Nat → Nat → Nat → Option (Option Nat)) (d m pc len : Nat) (L : List (Nat × sV)) (S : List sV) (lf : sF) : Option sR := match lf.2.1 with
  | .inl v => rec d m (lf.1, pc + len, L, v.toList ++ S, lf.2.2)
  | .inr E => match hnd m pc E with
    | some (some h) => rec d m (lf.1, h, L, [.inl (.retAddr 0)], lf.2.2)
    | some none => some ([(lf.1, .inr E, lf.2.2)], 0, 0)
    | none => none
/-- the receiver, as the kind of call asks -/
def srcv (t rc : Nat) (M : List sE) (a : List sV) : Bool := match t with
  | 1 => true
  | 4 => true
  | 3 => match a with
    | .inl (.ref _) :: _ => true
    | _ => false
  | 2 => match a with
    | r :: _ => match sobj M r with
      | some q => decide (q.2.1 = rc)
      | none => false
    | _ => false
  | 5 => match a with
    | r :: _ => match sobj M r with
      | some q => decide (q.2.1 = rc)
      | none => false
    | _ => false
  | _ => false
def snt (t : Nat) : Bool := t == 3 || t == 4 || t == 5
def scal (rec : Nat → Nat → sC → Option sR) (mis : Nat → MI) (hk : Nat → sG → List sV → List sE → Option sR) (hnd : Nat → Nat → Nat → Option (Option Nat)) (d m len : Nat) (inf : sI) (G : sG) (pc : Nat) (L : List (Nat × sV)) (S : List sV) (M : List sE) : Option sR :=
  if inf.1 = 6 then (match S with
    | .inl (.ref _) :: S => if (S.map scat).sum ≤ 900 ∧ len = 3 then rec d m (G, pc + 3, L, S, M) else none
    | _ => none)
  else match d with
    | 0 => none
    | d1 + 1 =>
      if inf.2.2.1 ≤ S.length ∧ srcv inf.1 inf.2.2.2.1 M (S.take inf.2.2.1).reverse = true ∧ ((S.drop inf.2.2.1).map scat).sum ≤ 8 ∧ swid (S.take inf.2.2.1).reverse ≤ (mis inf.2.1).2.2.1 ∧ (mis inf.2.1).2.2.1 ≤ 150 then
        match (match hk inf.2.1 G (S.take inf.2.2.1).reverse M with
          | some r => some r
          | none => rec d1 inf.2.1 (G, 0, sargs 0 (S.take inf.2.2.1).reverse, [], M)) with
        | none => none
        | some r => if snt inf.1 = true ∧ r.1.any sexc = true then none else match sjoin (r.1.map (scont rec hnd (d1 + 1) m pc len L (S.drop inf.2.2.1))) with
          | none => none
          | some q => some (q.1, r.2.1 + q.2.1, r.2.2 + q.2.2)
      else none
def sthr (i : Instr) (inf : sI) (S : List sV) : Bool := match i with
  | .new _ => decide (inf.1 = 2) && decide (inf.2.2.1 ≤ 40) && decide ((S.map scat).sum + inf.2.2.2.1 ≤ 1000)
  | _ => false
def sxS (rec : Nat → Nat → sC → Option sR) (mis : Nat → MI) (row : Nat → Nat → Option (Instr × Nat × sI)) (hk : Nat → sG → List sV → List sE → Option sR) (hnd : Nat → Nat → Nat → Option (Option Nat))
    (dv : Nat → sV → sV → Option Nat) (slen : Nat → Option sV) (mul : Nat → Nat → Option (List Value × (Nat → List sE) × Nat × Nat)) (d m : Nat) (c : sC) : Option sR :=
  match row m c.2.1 with
  | none => none
  | some w =>
    match sone dv slen (mul m) (mis m).2.2.1 w.1 w.2.1 w.2.2 c.1 c.2.1 c.2.2.1 c.2.2.2.1 c.2.2.2.2 with
    | some alts => sjoin (alts.map (fun t => sadd t.2.1 t.2.2 (rec d m t.1)))
    | none =>
    match sret w.1 w.2.1 (mis m).2.2.2.1 c.2.2.2.1 with
    | some v => some ([(c.1, .inl v, c.2.2.2.2)], 0, 0)
    | none => if sinv w.1 w.2.1 then scal rec mis hk hnd d m w.2.1 w.2.2 c.1 c.2.1 c.2.2.1 c.2.2.2.1 c.2.2.2.2
      else if sthr w.1 w.2.2 c.2.2.2.1 then some ([(c.1, .inr w.2.2.2.1, c.2.2.2.2)], 1, 6)
      else none
def sx (mis : Nat → MI) (row : Nat → Nat → Option (Instr × Nat × sI)) (hk : Nat → sG → List sV → List sE → Option sR) (hnd : Nat → Nat → Nat → Option (Option Nat))
    (dv : Nat → sV → sV → Option Nat) (slen : Nat → Option sV) (mul : Nat → Nat → Option (List Value × (Nat → List sE) × Nat × Nat)) : Nat → Nat → Nat → sC → Option sR
  | 0 => fun _ _ _ => none
  | n + 1 => sxS (sx mis row hk hnd dv slen mul n) mis row hk hnd dv slen mul
-- ===== what the sites give =====
def kObj (TT : List Cond) (cl : List vw_C) (X : XT) (mi : MI) (pc : Nat) : Prop := ∀ (fr lo : Nat) (P : Option Value → mH → Prop) (PX : String → mH → Prop) (kc ks : Nat) (L : List (Nat × Value)) (S : List Value) (M : mH) (i : Nat),
  1 ≤ fr → (S.map fun v => v.category).sum + 12 ≤ lo → LX TT cl X mi fr lo P PX kc ks (pc + 3) L S M → LX TT cl X mi fr lo P PX kc ks pc L (.ref i :: S) M
def kThr (TT : List Cond) (cl : List vw_C) (X : XT) (mi : MI) (pc : Nat) (E : String) (kf kl : Nat) : Prop := ∀ (fr lo : Nat) (P : Option Value → mH → Prop) (PX : String → mH → Prop) (kc ks : Nat) (L : List (Nat × Value)) (S : List Value) (M : mH),
  kf ≤ fr → (S.map fun v => v.category).sum + kl ≤ lo → PX E M → LX TT cl X mi fr lo P PX (kc + 1) (ks + 6) pc L S M
def kCall (TT : List Cond) (cl : List vw_C) (X : XT) (mi : MI) (pc len : Nat) (ci : MI) (t n rc : Nat) : Prop := ∀ (fr lo fr1 lo1 : Nat) (P : Option Value → mH → Prop) (PX : String → mH → Prop) (P1 : Option Value → mH → Prop) (PX1 : String → mH → Prop) (kc ks kc1 ks1 : Nat) (L : List (Nat × Value)) (S : List Value) (M : mH) (a : List Value),
  a.length = n → ((t = 2 ∨ t = 5) → ∃ (i : Nat) (fs : List Value) (a1 : List Value), a = .ref i :: a1 ∧ M[i]? = some (.inr (rc, fs))) → (t = 3 → ∃ (i : Nat) (a1 : List Value), a = .ref i :: a1) → (snt t = true → ∀ E M1, ¬ PX1 E M1) →
  EV TT cl X ci fr1 lo1 kc1 ks1 a M P1 PX1 → fr1 + 1 ≤ fr ∧ 8 + (ci.2.2.1 + 11) + lo1 ≤ lo → (S.map fun v => v.category).sum ≤ 8 →
  (∀ (E : String) (M1 : mH), PX1 E M1 → LT TT cl X mi fr lo P PX kc ks pc L E M1) → (∀ (v : Option Value) (M1 : mH), P1 v M1 → LX TT cl X mi fr lo P PX kc ks (pc + len) L (v.toList ++ S) M1) → LX TT cl X mi fr lo P PX (kc1 + kc) (ks1 + ks) pc L (a.reverse ++ S) M
/-- a row of a method: the instruction, and what its site gives -/
def sOK (TT : List Cond) (cl : List vw_C) (X : XT) (mis : Nat → MI) (en : Nat → String) (mul : Nat → Nat → Option (List Value × (Nat → List sE) × Nat × Nat)) (m pc : Nat) (w : Instr × Nat × sI) : Prop :=
  decode (mis m).2.1 pc = .ok (w.1, w.2.1) ∧ sOKH TT cl X (mul m) (mis m) pc w.1 w.2.2 ∧
  (sinv w.1 w.2.1 = true → (w.2.2.1 = 6 → kObj TT cl X (mis m) pc) ∧ (¬ w.2.2.1 = 6 → kCall TT cl X (mis m) pc w.2.1 (mis w.2.2.2.1) w.2.2.1 w.2.2.2.2.1 w.2.2.2.2.2.1)) ∧
  (∀ k, w.1 = .new k → w.2.2.1 = 2 → kThr TT cl X (mis m) pc (en w.2.2.2.1) w.2.2.2.2.1 w.2.2.2.2.2.1)
def sHnd (TT : List Cond) (cl : List vw_C) (X : XT) (mis : Nat → MI) (en : Nat → String) (hnd : Nat → Nat → Nat → Option (Option Nat)) : Prop := ∀ (m pc E : Nat) (o : Option Nat), hnd m pc E = some o →
  ∀ (fr lo : Nat) (P : Option Value → mH → Prop) (PX : String → mH → Prop) (kc ks : Nat) (L : List (Nat × Value)) (M : mH), match o with
  | some h => LX TT cl X (mis m) fr lo P PX kc ks h L [.retAddr 0] M → LT TT cl X (mis m) fr lo P PX kc ks pc L (en E) M
  | none => PX (en E) M → LT TT cl X (mis m) fr lo P PX kc ks pc L (en E) M
def slf (ρ : Nat → Int32) (en : Nat → String) (P : Option Value → mH → Prop) (PX : String → mH → Prop) (lf : sF) : Prop := match lf.2.1 with
  | .inl v => P (v.map (sd ρ)) (sdM ρ lf.2.2)
  | .inr E => PX (en E) (sdM ρ lf.2.2)
def sHk (TT : List Cond) (cl : List vw_C) (X : XT) (mis : Nat → MI) (en : Nat → String) (ρ : Nat → Int32) (hk : Nat → sG → List sV → List sE → Option sR) : Prop := ∀ (y : Nat) (G : sG) (a : List sV) (M : List sE) (r : sR), hk y G a M = some r → sSat ρ G →
  ∀ (d : Nat) (P : Option Value → mH → Prop) (PX : String → mH → Prop), (∀ lf, lf ∈ r.1 → sSat ρ lf.1 → slf ρ en P PX lf) → EV TT cl X (mis y) (40 + d) (1000 + 200 * d) r.2.1 r.2.2 (sdS ρ a) (sdM ρ M) P PX
def sGood (TT : List Cond) (cl : List vw_C) (X : XT) (mis : Nat → MI) (en : Nat → String) (ρ : Nat → Int32) (rec : Nat → Nat → sC → Option sR) : Prop := ∀ (d m : Nat) (c : sC) (r : sR), rec d m c = some r → sSat ρ c.1 →
  ∀ (P : Option Value → mH → Prop) (PX : String → mH → Prop), (∀ lf, lf ∈ r.1 → sSat ρ lf.1 → slf ρ en P PX lf) →
    LX TT cl X (mis m) (40 + d) (1000 + 200 * d) P PX r.2.1 r.2.2 c.2.1 (sdL ρ c.2.2.1) (sdS ρ c.2.2.2.1) (sdM ρ c.2.2.2.2)
end SX6
end
section
section SX7
variable {TT : List Cond} {cl : List vw_C} {X : XT} {mi : MI} {fr lo : Nat} {P : Option Value → mH → Prop} {PX : String → mH → Prop} {KC KS : Nat} {ρ : Nat → Int32}
theorem sone_ok {dv : Nat → sV → sV → Option Nat} {slen : Nat → Option sV} {mul : Nat → Option (List Value × (Nat → List sE) × Nat × Nat)} {i : Instr} {len : Nat} {inf : sI} {G : sG} {pc : Nat} {L : List (Nat × sV)} {S : List sV} {M : List sE} {r : List sT}
    (hdv : sDV ρ dv) (hnw : kNw TT) (hlen : kLen TT cl X ρ slen) (hscr : kScr X ρ) (hG : sSat ρ G) (h : sone dv slen mul mi.2.2.1 i len inf G pc L S M = some r) (d : decode mi.2.1 pc = .ok (i, len)) (hok : sOKH TT cl X mul mi pc i inf) (hall : ∀ t, t ∈ r → sOne TT cl X mi fr lo P PX ρ KC KS t) :
    LX TT cl X mi fr lo P PX KC KS pc (sdL ρ L) (sdS ρ S) (sdM ρ M) := by
  unfold sone at h
  split at h
  · rename_i xt hxt
    split at h
    · rename_i v hv
      split at h
      · rename_i hc
        cases h
        exact lx_load (x := xt.1) (t := xt.2) hxt d (sget_ok hv) (svty_ok hc) (sOne_get hall (List.mem_singleton.mpr rfl) hG)
      · cases h
    · cases h
  · split at h
    · rename_i v hv
      cases h
      exact lx_push hv d (sOne_get hall (List.mem_singleton.mpr rfl) hG)
    · split at h
      · rename_i xt hxt
        split at h
        · split at h
          · rename_i hc
            cases h
            have k := sOne_get hall (List.mem_singleton.mpr rfl) hG
            rw [← sput_ok] at k
            exact lx_store (x := xt.1) (t := xt.2) hxt d (svty_ok hc.1) hc.2 k
          · cases h
        · cases h
      · split at h
        · rename_i op hop
          split at h
          · rename_i hl1
            subst hl1
            split at h
            · split at h
              · rename_i l hl
                cases h
                obtain ⟨x, y, h1, h2, u, h3, h4, h5⟩ := sbinA_ok hdv hG hl
                have k := sOne_get hall (List.mem_map.mpr ⟨u, h3, rfl⟩) h4
                have k2 := (fun S0 (z : LX TT cl X mi fr lo P PX KC KS (pc + 1) (sdL ρ L) (sdS ρ (u.2 :: S0)) (sdM ρ M)) => (cast (congrArg (fun v => LX TT cl X mi fr lo P PX KC KS (pc + 1) (sdL ρ L) (v :: sdS ρ S0) (sdM ρ M)) h5) z : LX TT cl X mi fr lo P PX KC KS (pc + 1) (sdL ρ L) (.int (sbin op x y) :: sdS ρ S0) (sdM ρ M))) _ k
                have k3 := lx_bin hop d k2
                rw [← h1, ← h2] at k3
                exact k3
              · cases h
            · cases h
          · cases h
        · split at h
          · rename_i r1 hr
            cases h
            exact sstA_ok hdv hG hr d hall
          · exact sstH_ok hnw hlen hscr hG h d hok hall
theorem sret_ok {i : Instr} {len : Nat} {S : List sV} {v : Option sV} {pc : Nat} {L : List (Nat × Value)} {M : mH} (h : sret i len mi.2.2.2.1 S = some v) (d : decode mi.2.1 pc = .ok (i, len)) (hp : P (v.map (sd ρ)) M) : LX TT cl X mi fr lo P PX 0 0 pc L (sdS ρ S) M := by
  unfold sret at h
  split at h
  · rename_i v1 ty hr
    split at h
    · rename_i hc
      cases h
      obtain ⟨x, hx⟩ := sint_ok (ρ := ρ) hc.2
      have hn := snar_ok (ρ := ρ) hc.1
      rw [hx] at hn
      have hp1 : P (some (.int x)) M := by rw [← hx]; exact hp
      have k := lx_ireturn (TT := TT) (cl := cl) (X := X) (fr := fr) (lo := lo) (PX := PX) (kc := 0) (ks := 0) (L := L) d hr hn hp1
      rw [← hx] at k
      exact k
    · cases h
  · rename_i v1 hr
    split at h
    · rename_i hc
      cases h
      obtain ⟨x, hx⟩ := vty_1 (svty_ok (ρ := ρ) hc)
      have hp1 : P (some (.long x)) M := by rw [← hx]; exact hp
      have k := lx_lreturn (TT := TT) (cl := cl) (X := X) (fr := fr) (lo := lo) (PX := PX) (kc := 0) (ks := 0) (L := L) d hr hp1
      rw [← hx] at k
      exact k
    · cases h
  · rename_i v1 hr
    split at h
    · rename_i hc
      cases h
      obtain ⟨x, hx⟩ := vty_2 (svty_ok (ρ := ρ) hc)
      have hp1 : P (some (.float x)) M := by rw [← hx]; exact hp
      have k := lx_freturn (TT := TT) (cl := cl) (X := X) (fr := fr) (lo := lo) (PX := PX) (kc := 0) (ks := 0) (L := L) d hr hp1
      rw [← hx] at k
      exact k
    · cases h
  · rename_i v1 hr
    split at h
    · rename_i hc
      cases h
      obtain ⟨x, hx⟩ := vty_3 (svty_ok (ρ := ρ) hc)
      have hp1 : P (some (.double x)) M := by rw [← hx]; exact hp
      have k := lx_dreturn (TT := TT) (cl := cl) (X := X) (fr := fr) (lo := lo) (PX := PX) (kc := 0) (ks := 0) (L := L) d hr hp1
      rw [← hx] at k
      exact k
    · cases h
  · rename_i v1 nm hr
    split at h
    · rename_i hc
      cases h
      exact lx_areturn d hr (Or.inl ⟨_, rfl⟩) (vty_4 (svty_ok hc)) hp
    · cases h
  · rename_i v1 nm hr
    split at h
    · rename_i hc
      cases h
      exact lx_areturn d hr (Or.inr ⟨_, rfl⟩) (vty_4 (svty_ok hc)) hp
    · cases h
  · rename_i hr
    cases h
    exact lx_return d hr hp
  · cases h
variable {mis : Nat → MI} {row : Nat → Nat → Option (Instr × Nat × sI)} {hk : Nat → sG → List sV → List sE → Option sR} {hnd : Nat → Nat → Nat → Option (Option Nat)}
    {dv : Nat → sV → sV → Option Nat} {slen : Nat → Option sV} {mul : Nat → Nat → Option (List Value × (Nat → List sE) × Nat × Nat)} {en : Nat → String} {rec : Nat → Nat → sC → Option sR}
theorem srcv2_ok {t rc : Nat} {M : List sE} {a : List sV} (h : srcv t rc M a = true) (ht : t = 2 ∨ t = 5) : ∃ (i : Nat) (fs : List Value) (a1 : List Value), sdS ρ a = .ref i :: a1 ∧ (sdM ρ M)[i]? = some (.inr (rc, fs)) := by
  have key : ∀ b : List sV, (match b with
    | r :: _ => match sobj M r with
      | some q => decide (q.2.1 = rc)
      | none => false
    | _ => false) = true → ∃ (i : Nat) (fs : List Value) (a1 : List Value), sdS ρ b = .ref i :: a1 ∧ (sdM ρ M)[i]? = some (.inr (rc, fs)) := by
    intro b hb
    split at hb
    · split at hb
      · rename_i q hq
        obtain ⟨rfl, hM⟩ := sobj_ok hq
        have e : q.2.1 = rc := of_decide_eq_true hb
        have hM1 := sdM_at (ρ := ρ) hM
        rw [show q.2 = (rc, q.2.2) by rw [← e]] at hM1
        exact ⟨q.1, _, _, rfl, hM1⟩
      · cases hb
    · cases hb
  rcases ht with rfl | rfl
  · exact key a h
  · exact key a h
theorem srcv3_ok {rc : Nat} {M : List sE} {a : List sV} (h : srcv 3 rc M a = true) : ∃ (i : Nat) (a1 : List Value), sdS ρ a = .ref i :: a1 := by
  have key : ∀ b : List sV, (match b with
    | .inl (.ref _) :: _ => true
    | _ => false) = true → ∃ (i : Nat) (a1 : List Value), sdS ρ b = .ref i :: a1 := by
    intro b hb
    split at hb
    · exact ⟨_, _, rfl⟩
    · cases hb
  exact key a h
theorem scal_ok (hX : mj_XOK X) (hpl : ∀ m, plainName (mis m).1.cls = true) (hrec : sGood TT cl X mis en ρ rec) (hhk : sHk TT cl X mis en ρ hk) (hhnd : sHnd TT cl X mis en hnd) {d m len : Nat} {inf : sI} {G : sG} {pc : Nat} {L : List (Nat × sV)} {S : List sV} {M : List sE} {r : sR} (hG : sSat ρ G)
    (h : scal rec mis hk hnd d m len inf G pc L S M = some r) (hok : (inf.1 = 6 → kObj TT cl X (mis m) pc) ∧ (¬ inf.1 = 6 → kCall TT cl X (mis m) pc len (mis inf.2.1) inf.1 inf.2.2.1 inf.2.2.2.1))
    (hall : ∀ lf, lf ∈ r.1 → sSat ρ lf.1 → slf ρ en P PX lf) : LX TT cl X (mis m) (40 + d) (1000 + 200 * d) P PX r.2.1 r.2.2 pc (sdL ρ L) (sdS ρ S) (sdM ρ M) := by
  unfold scal at h
  split at h
  · rename_i h6
    split at h
    · split at h
      · rename_i hc
        have k := hrec _ _ _ _ h hG P PX hall
        refine hok.1 h6 _ _ P PX _ _ _ _ _ _ (by omega) (by show ((sdS ρ _).map fun v => v.category).sum + 12 ≤ _; rw [sdS_sum]; omega) k
      · cases h
    · cases h
  · rename_i h6
    split at h
    · cases h
    · rename_i d1
      split at h
      · rename_i hc
        obtain ⟨hc1, hc2, hc3, hc4, hc5⟩ := hc
        split at h
        · cases h
        · rename_i r1 hr1
          split at h
          · cases h
          · rename_i hnt
            split at h
            · cases h
            · rename_i q hq
              cases h
              have hj := sjoin_ok hq
              have hev : ∀ (P1 : Option Value → mH → Prop) (PX1 : String → mH → Prop), (∀ lf, lf ∈ r1.1 → sSat ρ lf.1 → slf ρ en P1 PX1 lf) → EV TT cl X (mis inf.2.1) (40 + d1) (1000 + 200 * d1) r1.2.1 r1.2.2 (sdS ρ (S.take inf.2.2.1).reverse) (sdM ρ M) P1 PX1 := by
                intro P1 PX1 hP1
                split at hr1
                · rename_i r2 hr2
                  cases hr1
                  exact hhk _ _ _ _ _ hr2 hG d1 P1 PX1 hP1
                · have k := hrec _ _ _ _ hr1 hG P1 PX1 hP1
                  refine ev_of hX (hpl _) (by rw [swid_ok]; exact hc4) ?_
                  rw [sargs_ok]
                  exact k
              have k := hok.2 h6 (40 + (d1 + 1)) (1000 + 200 * (d1 + 1)) (40 + d1) (1000 + 200 * d1) P PX (fun v M1 => ∃ lf, lf ∈ r1.1 ∧ sSat ρ lf.1 ∧ ∃ v1, lf.2.1 = .inl v1 ∧ v = v1.map (sd ρ) ∧ M1 = sdM ρ lf.2.2) (fun E M1 => ∃ lf, lf ∈ r1.1 ∧ sSat ρ lf.1 ∧ ∃ E1, lf.2.1 = .inr E1 ∧ E = en E1 ∧ M1 = sdM ρ lf.2.2)
                q.2.1 q.2.2 r1.2.1 r1.2.2 (sdL ρ L) (sdS ρ (S.drop inf.2.2.1)) (sdM ρ M) (sdS ρ (S.take inf.2.2.1).reverse)
                (by unfold sdS; rw [List.length_map, List.length_reverse, List.length_take]; omega) (srcv2_ok hc2) (fun h3 => by rw [h3] at hc2; exact srcv3_ok hc2)
                (fun hnt1 E M1 hz => by
                  obtain ⟨lf, z1, z2, E1, z3, z4, z5⟩ := hz
                  refine hnt ⟨hnt1, List.any_eq_true.mpr ⟨lf, z1, ?_⟩⟩
                  unfold sexc; rw [z3])
                (hev _ _ (fun lf z1 z2 => by
                  unfold slf
                  split
                  · rename_i v1 hv1; exact ⟨lf, z1, z2, v1, hv1, rfl, rfl⟩
                  · rename_i E1 hE1; exact ⟨lf, z1, z2, E1, hE1, rfl, rfl⟩))
                ⟨by omega, by omega⟩ (by rw [sdS_sum]; exact hc3)
                (fun E M1 hz => by
                  obtain ⟨lf, z1, z2, E1, z3, z4, z5⟩ := hz
                  subst z4; subst z5
                  obtain ⟨o, ho, j1, j2, j3⟩ := hj _ (List.mem_map.mpr ⟨lf, z1, rfl⟩)
                  unfold scont at ho
                  rw [z3] at ho
                  dsimp only at ho
                  split at ho
                  · rename_i h9 hh
                    refine hhnd _ _ _ _ hh _ _ P PX _ _ _ _ (lx_room j2 j3 ?_)
                    exact hrec _ _ _ _ ho z2 P PX (fun lf2 y1 y2 => hall lf2 (j1 lf2 y1) y2)
                  · rename_i hh
                    cases ho
                    exact hhnd _ _ _ _ hh _ _ P PX _ _ _ _ (hall _ (j1 _ (List.mem_singleton.mpr rfl)) z2)
                  · cases ho)
                (fun v M1 hz => by
                  obtain ⟨lf, z1, z2, v1, z3, z4, z5⟩ := hz
                  subst z4; subst z5
                  obtain ⟨o, ho, j1, j2, j3⟩ := hj _ (List.mem_map.mpr ⟨lf, z1, rfl⟩)
                  unfold scont at ho
                  rw [z3] at ho
                  dsimp only at ho
                  have k := hrec _ _ _ _ ho z2 P PX (fun lf2 y1 y2 => hall lf2 (j1 lf2 y1) y2)
                  have e : sdS ρ (v1.toList ++ S.drop inf.2.2.1) = (v1.map (sd ρ)).toList ++ sdS ρ (S.drop inf.2.2.1) := by
                    rw [sdS_app]; cases v1 <;> rfl
                  rw [← e]
                  exact lx_room j2 j3 k)
              rw [← sdS_rev, ← sdS_app, List.reverse_reverse, List.take_append_drop] at k
              exact k
      · cases h
theorem sxS_ok (hX : mj_XOK X) (hpl : ∀ m, plainName (mis m).1.cls = true) (hrow : ∀ m pc w, row m pc = some w → sOK TT cl X mis en mul m pc w) (hhk : sHk TT cl X mis en ρ hk) (hhnd : sHnd TT cl X mis en hnd)
    (hdv : sDV ρ dv) (hnw : kNw TT) (hlen : kLen TT cl X ρ slen) (hscr : kScr X ρ) (hrec : sGood TT cl X mis en ρ rec) : sGood TT cl X mis en ρ (sxS rec mis row hk hnd dv slen mul) := by
  intro d m c r h hG P PX hall
  obtain ⟨G, pc, L, S, M⟩ := c
  unfold sxS at h
  split at h
  · cases h
  · rename_i w hw
    obtain ⟨ok1, ok2, ok3, ok4⟩ := hrow _ _ _ hw
    split at h
    · rename_i alts ha
      have hj := sjoin_ok h
      refine sone_ok hdv hnw hlen hscr hG ha ok1 ok2 (fun t ht hs => ?_)
      obtain ⟨o, ho, j1, j2, j3⟩ := hj _ (List.mem_map.mpr ⟨t, ht, rfl⟩)
      unfold sadd at ho
      split at ho
      · cases ho
      · rename_i r1 hr1
        cases ho
        exact ⟨r1.2.1, r1.2.2, j2, j3, hrec _ _ _ _ hr1 hs P PX (fun lf2 y1 y2 => hall lf2 (j1 lf2 y1) y2)⟩
    · split at h
      · rename_i v hv
        cases h
        exact sret_ok hv ok1 (hall _ (List.mem_singleton.mpr rfl) hG)
      · split at h
        · rename_i hi
          exact scal_ok hX hpl hrec hhk hhnd hG h (ok3 hi) hall
        · split at h
          · rename_i ht
            cases h
            unfold sthr at ht
            split at ht
            · rename_i k hk9
              simp only [Bool.and_eq_true, decide_eq_true_eq] at ht
              obtain ⟨⟨ht1, ht2⟩, ht3⟩ := ht
              refine ok4 _ hk9 ht1 _ _ P PX 0 0 _ _ _ (by omega) (by rw [sdS_sum]; dsimp only; omega) ?_
              exact hall _ (List.mem_singleton.mpr rfl) hG
            · cases ht
          · cases h
theorem sx_ok (hX : mj_XOK X) (hpl : ∀ m, plainName (mis m).1.cls = true) (hrow : ∀ m pc w, row m pc = some w → sOK TT cl X mis en mul m pc w) (hhk : sHk TT cl X mis en ρ hk) (hhnd : sHnd TT cl X mis en hnd)
    (hdv : sDV ρ dv) (hnw : kNw TT) (hlen : kLen TT cl X ρ slen) (hscr : kScr X ρ) : ∀ n : Nat, sGood TT cl X mis en ρ (sx mis row hk hnd dv slen mul n) := by
  intro n
  induction n with
  | zero => intro d m c r h; cases h
  | succ n ih => exact sxS_ok hX hpl hrow hhk hhnd hdv hnw hlen hscr ih
end SX7
end
section
section FX1
/-! the interpreter with symbols once more, for the kernel: each instruction is a small function, what it makes is laid out at once -/
-- ===== laying out =====
def fN {α : Type} (n : Nat) (k : Nat → α) : α := match n with | 0 => k 0 | m + 1 => k (Nat.succ m)
theorem fN_eq {α : Type} {n : Nat} {k : Nat → α} : fN n k = k n := by cases n <;> rfl
def fZ {α : Type} (z : Int) (k : Int → α) : α := match z with | .ofNat n => fN n (fun n => k (.ofNat n)) | .negSucc n => fN n (fun n => k (.negSucc n))
theorem fZ_eq {α : Type} {z : Int} {k : Int → α} : fZ z k = k z := by cases z <;> simp only [fZ, fN_eq]
def fI {α : Type} (x : Int32) (k : Int32 → α) : α := fZ x.toInt (fun z => k (Int32.ofInt z))
theorem fI_eq {α : Type} {x : Int32} {k : Int32 → α} : fI x k = k x := by unfold fI; rw [fZ_eq, Int32.ofInt_toInt]
def fV {α : Type} (v : sV) (k : sV → α) : α := match v with
  | .inl (.int x) => fI x (fun x => k (.inl (.int x)))
  | .inl (.ref x) => fN x (fun x => k (.inl (.ref x)))
  | .inl .null => k (.inl .null)
  | .inl (.long x) => k (.inl (.long x))
  | .inl (.float x) => k (.inl (.float x))
  | .inl (.double x) => k (.inl (.double x))
  | .inl (.retAddr x) => k (.inl (.retAddr x))
  | .inr (b, j) => k (.inr (b, j))
theorem fV_eq {α : Type} {v : sV} {k : sV → α} : fV v k = k v := by
  rcases v with v | ⟨b, j⟩
  · cases v <;> simp only [fV, fI_eq, fN_eq]
  · rfl
def fS {α β : Type} : List α → (List α → β) → β
  | [], k => k []
  | e :: r, k => fS r (fun r1 => k (e :: r1))
theorem fS_eq {α β : Type} : ∀ {l : List α} {k : List α → β}, fS l k = k l := by
  intro l
  induction l with
  | nil => intro k; rfl
  | cons e r ih => intro k; exact ih
def fB {α : Type} (b : sB) (k : sB → α) : α := match b with | (x, y, z) => fZ x (fun x => fZ y (fun y => fS z (fun z => k (x, y, z))))
theorem fB_eq {α : Type} {b : sB} {k : sB → α} : fB b k = k b := by
  obtain ⟨x, y, z⟩ := b
  unfold fB
  dsimp only
  rw [fZ_eq, fZ_eq, fS_eq]
def fG {β : Type} : sG → (sG → β) → β
  | [], k => k []
  | e :: r, k => fB e (fun e1 => fG r (fun r1 => k (e1 :: r1)))
theorem fG_eq {β : Type} : ∀ {l : sG} {k : sG → β}, fG l k = k l := by
  intro l
  induction l with
  | nil => intro k; rfl
  | cons e r ih => intro k; unfold fG; rw [fB_eq, ih]
/-- a local word -/
def getC {β : Type} (x : Nat) (k : sV → Option β) : List (Nat × sV) → Option β
  | [] => none
  | (j, v) :: r => cond (Nat.beq j x) (k v) (getC x k r)
theorem getC_ok {β : Type} {x : Nat} {k : sV → Option β} {b : β} : ∀ {L : List (Nat × sV)}, getC x k L = some b → ∃ v, sget L x = some v ∧ k v = some b := by
  intro L
  induction L with
  | nil => intro h; cases h
  | cons q r ih =>
    intro h
    obtain ⟨j, v⟩ := q
    unfold getC at h
    unfold sget
    cases e : Nat.beq j x with
    | true => rw [e] at h; exact ⟨v, by rw [if_pos (Nat.eq_of_beq_eq_true e)], h⟩
    | false => rw [e] at h; rw [if_neg (Nat.ne_of_beq_eq_false e)]; exact ih h
/-- the first n of a stack, the last one first, and the rest -/
def takeR {β : Type} (k : List sV → List sV → Option β) : Nat → List sV → List sV → Option β
  | 0, acc, S => k acc S
  | _ + 1, _, [] => none
  | n + 1, acc, v :: S => takeR k n (v :: acc) S
theorem takeR_ok {β : Type} {k : List sV → List sV → Option β} {b : β} : ∀ {n : Nat} {acc S : List sV}, takeR k n acc S = some b → n ≤ S.length ∧ k ((S.take n).reverse ++ acc) (S.drop n) = some b := by
  intro n
  induction n with
  | zero => intro acc S h; exact ⟨Nat.zero_le _, by simpa [takeR] using h⟩
  | succ n ih =>
    intro acc S h
    cases S with
    | nil => cases h
    | cons v S =>
      obtain ⟨h1, h2⟩ := ih (show takeR k n (v :: acc) S = some b from h)
      refine ⟨by simp; exact h1, ?_⟩
      simpa [List.take_succ_cons, List.drop_succ_cons] using h2
/-- the locals of a callee -/
def argsC {β : Type} : Nat → List sV → (List (Nat × sV) → β) → β
  | _, [], k => k []
  | i, v :: vs, k => fN (cond (Nat.beq (scat v) 2) (i + 2) (i + 1)) (fun i1 => argsC i1 vs (fun r => k ((i, v) :: r)))
theorem argsC_eq {β : Type} : ∀ {vs : List sV} {i : Nat} {k : List (Nat × sV) → β}, argsC i vs k = k (sargs i vs) := by
  intro vs
  induction vs with
  | nil => intro i k; rfl
  | cons v vs ih =>
    intro i k
    unfold argsC sargs
    rw [fN_eq, ih]
    cases e : Nat.beq (scat v) 2 with
    | true => rw [if_pos (Nat.eq_of_beq_eq_true e)]; rfl
    | false => rw [if_neg (Nat.ne_of_beq_eq_false e)]; rfl
-- ===== results side by side =====
def jn2 (a b : Option sR) : Option sR := match a with
  | none => none
  | some r => match b with
    | none => none
    | some q => some (r.1 ++ q.1, max r.2.1 q.2.1, max r.2.2 q.2.2)
def fJ {α : Type} (f : α → Option sR) : List α → Option sR
  | [] => some ([], 0, 0)
  | [a] => f a
  | a :: r => jn2 (f a) (fJ f r)
theorem fJ_ok {α : Type} {f : α → Option sR} : ∀ {l : List α} {q : sR}, fJ f l = some q → ∀ a, a ∈ l → ∃ r, f a = some r ∧ (∀ lf, lf ∈ r.1 → lf ∈ q.1) ∧ r.2.1 ≤ q.2.1 ∧ r.2.2 ≤ q.2.2 := by
  intro l
  induction l with
  | nil => intro q _ a ha; cases ha
  | cons a0 l ih =>
    intro q h a ha
    cases l with
    | nil =>
      rcases List.mem_cons.mp ha with rfl | ha
      · exact ⟨q, h, fun _ z => z, Nat.le_refl _, Nat.le_refl _⟩
      · cases ha
    | cons a1 l =>
      have h1 : jn2 (f a0) (fJ f (a1 :: l)) = some q := h
      unfold jn2 at h1
      split at h1
      · cases h1
      · rename_i r hr
        split at h1
        · cases h1
        · rename_i q1 hq1
          cases h1
          rcases List.mem_cons.mp ha with rfl | ha
          · exact ⟨r, hr, fun f hf => List.mem_append_left _ hf, Nat.le_max_left _ _, Nat.le_max_left _ _⟩
          · obtain ⟨r1, e, k1, k2, k3⟩ := ih hq1 a ha
            exact ⟨r1, e, fun f hf => List.mem_append_right _ (k1 f hf), Nat.le_trans k2 (Nat.le_max_right _ _), Nat.le_trans k3 (Nat.le_max_right _ _)⟩
def ad2 (a b : Nat) (o : Option sR) : Option sR := match o with
  | none => none
  | some r => some (r.1, r.2.1 + a, r.2.2 + b)
-- ===== the interpreter =====
abbrev RK : Type := Nat → Nat → sG → Nat → List (Nat × sV) → List sV → List sE → Option sR
abbrev Op : Type := RK → Nat → sG → List (Nat × sV) → List sV → List sE → Option sR
noncomputable def fx (row : Nat → Nat → Option Op) (n : Nat) : RK :=
  Nat.rec (motive := fun _ => RK) (fun _ _ _ _ _ _ _ => none) (fun _ ih d m G pc L S M => match row m pc with | none => none | some f => f ih d G L S M) n
variable {TT : List Cond} {cl : List vw_C} {X : XT} {mis : Nat → MI} {en : Nat → String} {ρ : Nat → Int32}
def gd (TT : List Cond) (cl : List vw_C) (X : XT) (mis : Nat → MI) (en : Nat → String) (ρ : Nat → Int32) (m pc d : Nat) (G : sG) (L : List (Nat × sV)) (S : List sV) (M : List sE) (r : sR) : Prop :=
  sSat ρ G → ∀ (P : Option Value → mH → Prop) (PX : String → mH → Prop), (∀ lf, lf ∈ r.1 → sSat ρ lf.1 → slf ρ en P PX lf) →
    LX TT cl X (mis m) (40 + d) (1000 + 200 * d) P PX r.2.1 r.2.2 pc (sdL ρ L) (sdS ρ S) (sdM ρ M)
def rGood (TT : List Cond) (cl : List vw_C) (X : XT) (mis : Nat → MI) (en : Nat → String) (ρ : Nat → Int32) (rec : RK) : Prop := ∀ d m G pc L S M r, rec d m G pc L S M = some r → gd TT cl X mis en ρ m pc d G L S M r
def opOK (TT : List Cond) (cl : List vw_C) (X : XT) (mis : Nat → MI) (en : Nat → String) (ρ : Nat → Int32) (m pc : Nat) (f : Op) : Prop := ∀ rec, rGood TT cl X mis en ρ rec → ∀ d G L S M r, f rec d G L S M = some r → gd TT cl X mis en ρ m pc d G L S M r
theorem fx_ok {row : Nat → Nat → Option Op} (h : ∀ m pc f, row m pc = some f → opOK TT cl X mis en ρ m pc f) : ∀ n : Nat, rGood TT cl X mis en ρ (fx row n) := by
  intro n
  induction n with
  | zero => intro d m G pc L S M r e; cases e
  | succ n ih =>
    intro d m G pc L S M r e
    have e1 : (match row m pc with | none => none | some f => f (fx row n) d G L S M) = some r := e
    split at e1
    · cases e1
    · rename_i f hf
      exact h m pc f hf _ ih _ _ _ _ _ _ e1
theorem gd_of {m pc d : Nat} {G G1 : sG} {L : List (Nat × sV)} {S : List sV} {M : List sE} {r r1 : sR} (hl : ∀ lf, lf ∈ r1.1 → lf ∈ r.1) (h1 : r1.2.1 ≤ r.2.1) (h2 : r1.2.2 ≤ r.2.2) (hs : sSat ρ G1) (h : gd TT cl X mis en ρ m pc d G1 L S M r1) : gd TT cl X mis en ρ m pc d G L S M r := fun _ P PX hall =>
  lx_room h1 h2 (h hs P PX (fun lf z => hall lf (hl lf z)))
end FX1
end
section
section FX2
variable {TT : List Cond} {cl : List vw_C} {X : XT} {mis : Nat → MI} {en : Nat → String} {ρ : Nat → Int32} {m pc nx : Nat} {i : Instr} {len : Nat}
theorem cond_some {β : Type} {c : Bool} {a : Option β} {b : β} (h : cond c a none = some b) : c = true ∧ a = some b := by
  cases c with
  | true => exact ⟨rfl, h⟩
  | false => cases h
/-- words on the stack from the locals -/
def oLoad (m nx x t : Nat) : Op := fun rec d G L S M => getC x (fun v => cond (svty t v) (rec d m G nx L (v :: S) M) none) L
theorem oLoad_ok {x t : Nat} (h : sload i len = some (x, t)) (d : decode (mis m).2.1 pc = .ok (i, len)) (hn : pc + len = nx) : opOK TT cl X mis en ρ m pc (oLoad m nx x t) := by
  intro rec hr dd G L S M r e hG P PX hall
  subst hn
  obtain ⟨v, hv, e1⟩ := getC_ok e
  obtain ⟨e2, e3⟩ := cond_some e1
  exact lx_load h d (sget_ok hv) (svty_ok e2) (hr _ _ _ _ _ _ _ _ e3 hG P PX hall)
def oPush (m nx : Nat) (v : Value) : Op := fun rec d G L S M => rec d m G nx L (.inl v :: S) M
theorem oPush_ok {v : Value} (h : spush i len = some v) (d : decode (mis m).2.1 pc = .ok (i, len)) (hn : pc + len = nx) : opOK TT cl X mis en ρ m pc (oPush m nx v) := by
  intro rec hr dd G L S M r e hG P PX hall
  subst hn
  exact lx_push h d (hr _ _ _ _ _ _ _ _ e hG P PX hall)
theorem oPush_ok2 {v : Value} (hk : kPush TT cl X (mis m) pc len v) (hn : pc + len = nx) : opOK TT cl X mis en ρ m pc (oPush m nx v) := by
  intro rec hr dd G L S M r e hG P PX hall
  subst hn
  exact hk _ _ P PX _ _ _ _ _ (hr _ _ _ _ _ _ _ _ e hG P PX hall)
def oStore (m nx x t : Nat) : Op := fun rec d G L S M => match S with
  | v :: S1 => cond (svty t v) (fS (sput t x v L) (fun L1 => rec d m G nx L1 S1 M)) none
  | [] => none
theorem oStore_ok {x t : Nat} (h : sstore i len = some (x, t)) (d : decode (mis m).2.1 pc = .ok (i, len)) (hx : x + 1 < (mis m).2.2.1 ∨ (x < (mis m).2.2.1 ∧ (t == 1 || t == 3) = false)) (hn : pc + len = nx) : opOK TT cl X mis en ρ m pc (oStore m nx x t) := by
  intro rec hr dd G L S M r e hG P PX hall
  subst hn
  unfold oStore at e
  split at e
  · obtain ⟨e2, e3⟩ := cond_some e
    rw [fS_eq] at e3
    have k := hr _ _ _ _ _ _ _ _ e3 hG P PX hall
    rw [← sput_ok] at k
    exact lx_store h d (svty_ok e2) hx k
  · cases e
/-- two ints -/
def oBin (dv : Nat → sV → sV → Option Nat) (m nx op : Nat) : Op := fun rec d G L S M => match S with
  | b :: a :: S1 => (match a, b with
    | .inl (.int x), .inl (.int y) => fI (sbin op x y) (fun z => rec d m G nx L (.inl (.int z) :: S1) M)
    | a, b => match sbinA dv G op a b with
      | some l => fJ (fun q : sG × sV => fG q.1 (fun G1 => fV q.2 (fun v => rec d m G1 nx L (v :: S1) M))) l
      | none => none)
  | _ => none
theorem oBin_ok {dv : Nat → sV → sV → Option Nat} {op : Nat} (hdv : sDV ρ dv) (h : sbo i = some op) (d : decode (mis m).2.1 pc = .ok (i, 1)) (hn : pc + 1 = nx) : opOK TT cl X mis en ρ m pc (oBin dv m nx op) := by
  intro rec hr dd G L S M r e hG P PX hall
  subst hn
  unfold oBin at e
  split at e
  · split at e
    · rw [fI_eq] at e
      exact lx_bin h d (hr _ _ _ _ _ _ _ _ e hG P PX hall)
    · split at e
      · rename_i l hl
        obtain ⟨x, y, h1, h2, u, h3, h4, h5⟩ := sbinA_ok hdv hG hl
        obtain ⟨r1, e1, j1, j2, j3⟩ := fJ_ok e u h3
        rw [fG_eq, fV_eq] at e1
        have k := gd_of j1 j2 j3 h4 (hr _ _ _ _ _ _ _ _ e1) hG P PX hall
        have e9 : ∀ S1 : List sV, sdS ρ (_ :: _ :: S1) = .int y :: .int x :: sdS ρ S1 := fun S1 => by rw [← h1, ← h2]; rfl
        have e8 : ∀ S1 : List sV, sdS ρ (u.2 :: S1) = .int (sbin op x y) :: sdS ρ S1 := fun S1 => by rw [← h5]; rfl
        rw [e8] at k
        rw [e9]
        exact lx_bin h d k
      · cases e
  · cases e
def oGoto (m tgt : Nat) : Op := fun rec d G L S M => rec d m G tgt L S M
theorem oGoto_ok {off : Int} {tgt : Nat} (d : decode (mis m).2.1 pc = .ok (.goto off, 3)) (ht : (pc : Int) + off = (tgt : Int)) : opOK TT cl X mis en ρ m pc (oGoto m tgt) := by
  intro rec hr dd G L S M r e hG P PX hall
  exact lx_goto d ht (hr _ _ _ _ _ _ _ _ e hG P PX hall)
def cmpF (op : ClassFile.Cond) (G : sG) (a b : sV) (f : Bool → sG → Option sR) : Option sR := match a, b with
  | .inl (.int x), .inl (.int y) => f (scH op x.toInt y.toInt) G
  | a, b => match scmp G op a b with
    | some l => fJ (fun q : Bool × sG => fG q.2 (fun G1 => f q.1 G1)) l
    | none => none
theorem cmpF_ok {op : ClassFile.Cond} {G : sG} {a b : sV} {f : Bool → sG → Option sR} {r : sR} (hG : sSat ρ G) (h : cmpF op G a b f = some r) :
    ∃ x y, sd ρ a = .int x ∧ sd ρ b = .int y ∧ ∃ (G1 : sG) (r1 : sR), f (scH op x.toInt y.toInt) G1 = some r1 ∧ sSat ρ G1 ∧ (∀ lf, lf ∈ r1.1 → lf ∈ r.1) ∧ r1.2.1 ≤ r.2.1 ∧ r1.2.2 ≤ r.2.2 := by
  unfold cmpF at h
  split at h
  · exact ⟨_, _, rfl, rfl, _, _, h, hG, fun _ z => z, Nat.le_refl _, Nat.le_refl _⟩
  · split at h
    · rename_i l hl
      obtain ⟨x, y, h1, h2, q, h3, h4, h5⟩ := scmp_ok hG hl
      obtain ⟨r1, e1, j1, j2, j3⟩ := fJ_ok h q h3
      rw [fG_eq, h5] at e1
      exact ⟨x, y, h1, h2, q.2, r1, e1, h4, j1, j2, j3⟩
    · cases h
def oCmp2 (m nx tgt : Nat) (op : ClassFile.Cond) : Op := fun rec d G L S M => match S with
  | b :: a :: S1 => cmpF op G a b (fun t G1 => cond t (rec d m G1 tgt L S1 M) (rec d m G1 nx L S1 M))
  | _ => none
theorem oCmp2_ok {op : ClassFile.Cond} {off : Int} {tgt : Nat} (d : decode (mis m).2.1 pc = .ok (.if_icmp op off, 3)) (ht : (pc : Int) + off = (tgt : Int)) (hn : pc + 3 = nx) : opOK TT cl X mis en ρ m pc (oCmp2 m nx tgt op) := by
  intro rec hr dd G L S M r e hG P PX hall
  subst hn
  unfold oCmp2 at e
  split at e
  · obtain ⟨x, y, h1, h2, G1, r1, e1, h4, j1, j2, j3⟩ := cmpF_ok hG e
    have e9 : ∀ S1 : List sV, sdS ρ (_ :: _ :: S1) = .int y :: .int x :: sdS ρ S1 := fun S1 => by rw [← h1, ← h2]; rfl
    rw [e9]
    refine lx_icmp d ht (fun hh => ?_) (fun hh => ?_)
    · rw [hh] at e1; exact gd_of j1 j2 j3 h4 (hr _ _ _ _ _ _ _ _ e1) hG P PX hall
    · rw [hh] at e1; exact gd_of j1 j2 j3 h4 (hr _ _ _ _ _ _ _ _ e1) hG P PX hall
  · cases e
def oCmp1 (m nx tgt : Nat) (op : ClassFile.Cond) : Op := fun rec d G L S M => match S with
  | a :: S1 => cmpF op G a (.inl (.int 0)) (fun t G1 => cond t (rec d m G1 tgt L S1 M) (rec d m G1 nx L S1 M))
  | _ => none
theorem oCmp1_ok {op : ClassFile.Cond} {off : Int} {tgt : Nat} (d : decode (mis m).2.1 pc = .ok (.ifCond op off, 3)) (ht : (pc : Int) + off = (tgt : Int)) (hn : pc + 3 = nx) : opOK TT cl X mis en ρ m pc (oCmp1 m nx tgt op) := by
  intro rec hr dd G L S M r e hG P PX hall
  subst hn
  unfold oCmp1 at e
  split at e
  · obtain ⟨x, y, h1, h2, G1, r1, e1, h4, j1, j2, j3⟩ := cmpF_ok hG e
    cases h2
    have e9 : ∀ S1 : List sV, sdS ρ (_ :: S1) = .int x :: sdS ρ S1 := fun S1 => by rw [← h1]; rfl
    rw [e9]
    refine lx_if d ht (fun hh => ?_) (fun hh => ?_)
    · rw [hh] at e1; exact gd_of j1 j2 j3 h4 (hr _ _ _ _ _ _ _ _ e1) hG P PX hall
    · rw [hh] at e1; exact gd_of j1 j2 j3 h4 (hr _ _ _ _ _ _ _ _ e1) hG P PX hall
  · cases e
def snul (v : sV) : Bool := match v with | .inl .null => true | _ => false
theorem snul_ok {v : sV} (h : snul v = true) : v = .inl .null := by
  unfold snul at h
  split at h
  · rfl
  · cases h
def oNull (m nx tgt : Nat) (b : Bool) : Op := fun rec d G L S M => match S with
  | v :: S1 => cond (snul v) (rec d m G (cond b tgt nx) L S1 M) (cond (sisR v) (rec d m G (cond b nx tgt) L S1 M) none)
  | _ => none
theorem oNull_ok {off : Int} {tgt : Nat} (d : decode (mis m).2.1 pc = .ok (.ifnull off, 3)) (ht : (pc : Int) + off = (tgt : Int)) (hn : pc + 3 = nx) : opOK TT cl X mis en ρ m pc (oNull m nx tgt true) := by
  intro rec hr dd G L S M r e hG P PX hall
  subst hn
  unfold oNull at e
  split at e
  · rename_i v S1
    cases h : snul v with
    | true =>
      rw [h] at e
      cases snul_ok h
      exact lx_ifnull_n d ht (hr _ _ _ _ _ _ _ _ e hG P PX hall)
    | false =>
      rw [h] at e
      obtain ⟨e2, e3⟩ := cond_some e
      exact lx_ifnull_r d (sisR_ok e2) (hr _ _ _ _ _ _ _ _ e3 hG P PX hall)
  · cases e
theorem oNonnull_ok {off : Int} {tgt : Nat} (d : decode (mis m).2.1 pc = .ok (.ifnonnull off, 3)) (ht : (pc : Int) + off = (tgt : Int)) (hn : pc + 3 = nx) : opOK TT cl X mis en ρ m pc (oNull m nx tgt false) := by
  intro rec hr dd G L S M r e hG P PX hall
  subst hn
  unfold oNull at e
  split at e
  · rename_i v S1
    cases h : snul v with
    | true =>
      rw [h] at e
      cases snul_ok h
      exact lx_ifnonnull_n d (hr _ _ _ _ _ _ _ _ e hG P PX hall)
    | false =>
      rw [h] at e
      obtain ⟨e2, e3⟩ := cond_some e
      exact lx_ifnonnull_r d ht (sisR_ok e2) (hr _ _ _ _ _ _ _ _ e3 hG P PX hall)
  · cases e
/-- the few ints that a word may be -/
def conF (G : sG) (v : sV) (f : Int32 → sG → Option sR) : Option sR := match v with
  | .inl (.int x) => f x G
  | v => match sconc 70 G v with
    | some l => fJ (fun q : Int32 × sG => fG q.2 (fun G1 => fI q.1 (fun x => f x G1))) l
    | none => none
theorem conF_ok {G : sG} {v : sV} {f : Int32 → sG → Option sR} {r : sR} (hG : sSat ρ G) (h : conF G v f = some r) :
    ∃ x, sd ρ v = .int x ∧ ∃ (G1 : sG) (r1 : sR), f x G1 = some r1 ∧ sSat ρ G1 ∧ (∀ lf, lf ∈ r1.1 → lf ∈ r.1) ∧ r1.2.1 ≤ r.2.1 ∧ r1.2.2 ≤ r.2.2 := by
  unfold conF at h
  split at h
  · exact ⟨_, rfl, _, _, h, hG, fun _ z => z, Nat.le_refl _, Nat.le_refl _⟩
  · split at h
    · rename_i l hl
      obtain ⟨q, h3, h4, h5⟩ := sconc_ok hG hl
      obtain ⟨r1, e1, j1, j2, j3⟩ := fJ_ok h q h3
      rw [fG_eq, fI_eq] at e1
      exact ⟨q.1, h5, q.2, r1, e1, h4, j1, j2, j3⟩
    · cases h
def oIinc (m nx x : Nat) (n : Int) : Op := fun rec d G L S M => getC x (fun v => conF G v (fun y G1 => fI (y + Int32.ofInt n) (fun z => fS (sput1 x (.inl (.int z)) L) (fun L1 => rec d m G1 nx L1 S M)))) L
theorem oIinc_ok {x : Nat} {n : Int} (d : decode (mis m).2.1 pc = .ok (.iinc x n, 3)) (hx : x < (mis m).2.2.1) (hn : pc + 3 = nx) : opOK TT cl X mis en ρ m pc (oIinc m nx x n) := by
  intro rec hr dd G L S M r e hG P PX hall
  subst hn
  obtain ⟨v, hv, e1⟩ := getC_ok e
  obtain ⟨y, h1, G1, r1, e2, h4, j1, j2, j3⟩ := conF_ok hG e1
  rw [fI_eq, fS_eq] at e2
  have k := gd_of j1 j2 j3 h4 (hr _ _ _ _ _ _ _ _ e2) hG P PX hall
  refine lx_iinc d (by rw [sget_ok hv, h1]) rfl hx ?_ k
  rw [← sput1_ok]; rfl
def oI2l (m nx : Nat) : Op := fun rec d G L S M => match S with
  | .inl (.int x) :: S1 => rec d m G nx L (.inl (.long x.toInt64) :: S1) M
  | .inr (false, k) :: S1 => rec d m G nx L (.inr (true, k) :: S1) M
  | _ => none
theorem oI2l_ok (d : decode (mis m).2.1 pc = .ok (.i2l, 1)) (hn : pc + 1 = nx) : opOK TT cl X mis en ρ m pc (oI2l m nx) := by
  intro rec hr dd G L S M r e hG P PX hall
  subst hn
  unfold oI2l at e
  split at e
  · exact lx_i2l d (hr _ _ _ _ _ _ _ _ e hG P PX hall)
  · exact lx_i2l d (hr _ _ _ _ _ _ _ _ e hG P PX hall)
  · cases e
def oI2c (dv : Nat → sV → sV → Option Nat) (m nx : Nat) : Op := fun rec d G L S M => match S with
  | a :: S1 => (match dv 9 a (.inl (.int 0)) with
    | some k => rec d m G nx L (.inr (false, k) :: S1) M
    | none => none)
  | _ => none
theorem oI2c_ok {dv : Nat → sV → sV → Option Nat} (hdv : sDV ρ dv) (d : decode (mis m).2.1 pc = .ok (.i2c, 1)) (hn : pc + 1 = nx) : opOK TT cl X mis en ρ m pc (oI2c dv m nx) := by
  intro rec hr dd G L S M r e hG P PX hall
  subst hn
  unfold oI2c at e
  split at e
  · split at e
    · rename_i a S1 k hk
      obtain ⟨x, y, h1, h2, h3⟩ := hdv _ _ _ _ hk
      have k1 := hr _ _ _ _ _ _ _ _ e hG P PX hall
      have e9 : ∀ S1 : List sV, sdS ρ (_ :: S1) = .int x :: sdS ρ S1 := fun S1 => by rw [← h1]; rfl
      have e8 : ∀ S1 : List sV, sdS ρ (.inr (false, k) :: S1) = .int (sbin 9 x y) :: sdS ρ S1 := fun S1 => by rw [← h3]; rfl
      rw [e8] at k1
      rw [e9]
      exact lx_i2c d k1
    · cases e
  · cases e
def oLcmp (m nx : Nat) : Op := fun rec d G L S M => match S with
  | .inl (.long y) :: .inl (.long x) :: S1 => fI (lg_cmp x y) (fun z => rec d m G nx L (.inl (.int z) :: S1) M)
  | .inr (true, j) :: .inr (true, k) :: S1 => cond (Nat.beq j k) (rec d m G nx L (.inl (.int 0) :: S1) M) none
  | _ => none
theorem oLcmp_ok (d : decode (mis m).2.1 pc = .ok (.lcmp, 1)) (hn : pc + 1 = nx) : opOK TT cl X mis en ρ m pc (oLcmp m nx) := by
  intro rec hr dd G L S M r e hG P PX hall
  subst hn
  unfold oLcmp at e
  split at e
  · rw [fI_eq] at e
    exact lx_lcmp d (hr _ _ _ _ _ _ _ _ e hG P PX hall)
  · obtain ⟨e2, e3⟩ := cond_some e
    cases Nat.eq_of_beq_eq_true e2
    refine lx_lcmp d ?_
    rw [show ∀ x : Int64, lg_cmp x x = 0 from fun x => by unfold lg_cmp; simp]
    exact hr _ _ _ _ _ _ _ _ e3 hG P PX hall
  · cases e
def oDup (m nx : Nat) : Op := fun rec d G L S M => match S with
  | v :: S1 => cond (Nat.beq (scat v) 1) (rec d m G nx L (v :: v :: S1) M) none
  | _ => none
theorem oDup_ok (d : decode (mis m).2.1 pc = .ok (.dup, 1)) (hn : pc + 1 = nx) : opOK TT cl X mis en ρ m pc (oDup m nx) := by
  intro rec hr dd G L S M r e hG P PX hall
  subst hn
  unfold oDup at e
  split at e
  · obtain ⟨e2, e3⟩ := cond_some e
    exact lx_dup d (by rw [scat_eq]; exact Nat.eq_of_beq_eq_true e2) (hr _ _ _ _ _ _ _ _ e3 hG P PX hall)
  · cases e
def oPop (m nx : Nat) : Op := fun rec d G L S M => match S with
  | v :: S1 => cond (Nat.beq (scat v) 1) (rec d m G nx L S1 M) none
  | _ => none
theorem oPop_ok (d : decode (mis m).2.1 pc = .ok (.pop, 1)) (hn : pc + 1 = nx) : opOK TT cl X mis en ρ m pc (oPop m nx) := by
  intro rec hr dd G L S M r e hG P PX hall
  subst hn
  unfold oPop at e
  split at e
  · obtain ⟨e2, e3⟩ := cond_some e
    exact lx_pop d (by rw [scat_eq]; exact Nat.eq_of_beq_eq_true e2) (hr _ _ _ _ _ _ _ _ e3 hG P PX hall)
  · cases e
def oDup2 (m nx : Nat) : Op := fun rec d G L S M => match S with
  | v :: u :: S1 => cond (Nat.beq (scat v) 1 && Nat.beq (scat u) 1) (rec d m G nx L (v :: u :: v :: u :: S1) M) none
  | _ => none
theorem oDup2_ok (d : decode (mis m).2.1 pc = .ok (.dup2, 1)) (hn : pc + 1 = nx) : opOK TT cl X mis en ρ m pc (oDup2 m nx) := by
  intro rec hr dd G L S M r e hG P PX hall
  subst hn
  unfold oDup2 at e
  split at e
  · obtain ⟨e2, e3⟩ := cond_some e
    rw [Bool.and_eq_true] at e2
    exact lx_dup2 d (by rw [scat_eq]; exact Nat.eq_of_beq_eq_true e2.1) (by rw [scat_eq]; exact Nat.eq_of_beq_eq_true e2.2) (hr _ _ _ _ _ _ _ _ e3 hG P PX hall)
  · cases e
def oDupX1 (m nx : Nat) : Op := fun rec d G L S M => match S with
  | v :: u :: S1 => cond (Nat.beq (scat v) 1 && Nat.beq (scat u) 1) (rec d m G nx L (v :: u :: v :: S1) M) none
  | _ => none
theorem oDupX1_ok (d : decode (mis m).2.1 pc = .ok (.dup_x1, 1)) (hn : pc + 1 = nx) : opOK TT cl X mis en ρ m pc (oDupX1 m nx) := by
  intro rec hr dd G L S M r e hG P PX hall
  subst hn
  unfold oDupX1 at e
  split at e
  · obtain ⟨e2, e3⟩ := cond_some e
    rw [Bool.and_eq_true] at e2
    exact lx_dup_x1 d (by rw [scat_eq]; exact Nat.eq_of_beq_eq_true e2.1) (by rw [scat_eq]; exact Nat.eq_of_beq_eq_true e2.2) (hr _ _ _ _ _ _ _ _ e3 hG P PX hall)
  · cases e
def oTab (m pc : Nat) (dflt lo9 hi9 : Int) (offs : Array Int) : Op := fun rec d G L S M => match S with
  | a :: S1 => conF G a (fun x G1 => match (if x.toInt < lo9 ∨ hi9 < x.toInt then some dflt else offs[(x.toInt - lo9).toNat]?) with
    | some off => (match stgt pc off with
      | some t => fN t (fun t => rec d m G1 t L S1 M)
      | none => none)
    | none => none)
  | _ => none
theorem oTab_ok {dflt lo9 hi9 : Int} {offs : Array Int} (d : decode (mis m).2.1 pc = .ok (.tableswitch dflt lo9 hi9 offs, len)) : opOK TT cl X mis en ρ m pc (oTab m pc dflt lo9 hi9 offs) := by
  intro rec hr dd G L S M r e hG P PX hall
  unfold oTab at e
  split at e
  · obtain ⟨x, h1, G1, r1, e2, h4, j1, j2, j3⟩ := conF_ok hG e
    have e9 : ∀ S1 : List sV, sdS ρ (_ :: S1) = .int x :: sdS ρ S1 := fun S1 => by rw [← h1]; rfl
    rw [e9]
    split at e2
    · rename_i off hoff
      split at e2
      · rename_i t ht
        rw [fN_eq] at e2
        have k := gd_of j1 j2 j3 h4 (hr _ _ _ _ _ _ _ _ e2) hG P PX hall
        split at hoff
        · rename_i h9
          cases hoff
          exact lx_tableOut d h9 (stgt_ok ht) k
        · rename_i h9
          exact lx_tableIn d (fun z => h9 (Or.inl z)) (fun z => h9 (Or.inr z)) hoff (stgt_ok ht) k
      · cases e2
    · cases e2
  · cases e
end FX2
end
section
section FX3
variable {TT : List Cond} {cl : List vw_C} {X : XT} {mis : Nat → MI} {en : Nat → String} {ρ : Nat → Int32} {m pc nx : Nat} {i : Instr} {len : Nat}
/-- the object at a reference -/
def objC {β : Type} (M : List sE) (r : sV) (f : Nat → Nat → List sV → Option β) : Option β := match r with
  | .inl (.ref i) => (match M[i]? with
    | some (.inl (ci, fs)) => f i ci fs
    | _ => none)
  | _ => none
theorem objC_ok {β : Type} {M : List sE} {r : sV} {f : Nat → Nat → List sV → Option β} {b : β} (h : objC M r f = some b) : ∃ i ci fs, r = .inl (.ref i) ∧ M[i]? = some (.inl (ci, fs)) ∧ f i ci fs = some b := by
  unfold objC at h
  split at h
  · split at h
    · rename_i hk
      exact ⟨_, _, _, rfl, hk, h⟩
    · cases h
  · cases h
def arrC {β : Type} (M : List sE) (r : sV) (f : Nat → FieldType → Nat → Nat → List (Nat × sV) → Option β) : Option β := match r with
  | .inl (.ref i) => (match M[i]? with
    | some (.inr (ty, n, k, us)) => f i ty n k us
    | _ => none)
  | _ => none
theorem arrC_ok {β : Type} {M : List sE} {r : sV} {f : Nat → FieldType → Nat → Nat → List (Nat × sV) → Option β} {b : β} (h : arrC M r f = some b) : ∃ i ty n k us, r = .inl (.ref i) ∧ M[i]? = some (.inr (ty, n, k, us)) ∧ f i ty n k us = some b := by
  unfold arrC at h
  split at h
  · split at h
    · rename_i hk
      exact ⟨_, _, _, _, _, rfl, hk, h⟩
    · cases h
  · cases h
def nthC {β : Type} (k : sV → Option β) : Nat → List sV → Option β
  | _, [] => none
  | 0, v :: _ => k v
  | n + 1, _ :: r => nthC k n r
theorem nthC_ok {β : Type} {k : sV → Option β} {b : β} : ∀ {fs : List sV} {n : Nat}, nthC k n fs = some b → ∃ v, fs[n]? = some v ∧ k v = some b := by
  intro fs
  induction fs with
  | nil => intro n h; cases n <;> cases h
  | cons v r ih =>
    intro n h
    cases n with
    | zero => exact ⟨v, rfl, h⟩
    | succ n =>
      obtain ⟨w, h1, h2⟩ := ih (show nthC k n r = some b from h)
      exact ⟨w, by simpa using h1, h2⟩
def oGet (m nx ci k : Nat) : Op := fun rec d G L S M => match S with
  | r :: S1 => objC M r (fun _ c fs => cond (Nat.beq c ci) (nthC (fun v => rec d m G nx L (v :: S1) M) k fs) none)
  | _ => none
theorem oGet_ok {ci k : Nat} (hk : kGet TT cl X (mis m) pc ci k) (hn : pc + 3 = nx) : opOK TT cl X mis en ρ m pc (oGet m nx ci k) := by
  intro rec hr dd G L S M r e hG P PX hall
  subst hn
  unfold oGet at e
  split at e
  · obtain ⟨i, c, fs, rfl, hM, e1⟩ := objC_ok e
    obtain ⟨e2, e3⟩ := cond_some e1
    cases Nat.eq_of_beq_eq_true e2
    obtain ⟨v, hv, e4⟩ := nthC_ok e3
    exact hk _ _ P PX _ _ _ _ _ i (fs.map (sd ρ)) (sd ρ v) (sdM_at (ρ := ρ) hM) (by rw [List.getElem?_map, hv]; rfl) (hr _ _ _ _ _ _ _ _ e4 hG P PX hall)
  · cases e
def oPut (m nx ci k : Nat) (ty : FieldType) : Op := fun rec d G L S M => match S with
  | v :: r :: S1 => objC M r (fun i c fs => cond (Nat.beq c ci && Nat.blt k fs.length && snar ty v && sfit ty v) (fS (fs.set k v) (fun fs1 => fS (M.set i (.inl (c, fs1))) (fun M1 => rec d m G nx L S1 M1))) none)
  | _ => none
theorem oPut_ok {ci k : Nat} {ty : FieldType} (hk : kPut TT cl X (mis m) pc ci k ty) (hn : pc + 3 = nx) : opOK TT cl X mis en ρ m pc (oPut m nx ci k ty) := by
  intro rec hr dd G L S M r e hG P PX hall
  subst hn
  unfold oPut at e
  split at e
  · obtain ⟨i, c, fs, rfl, hM, e1⟩ := objC_ok e
    obtain ⟨e2, e3⟩ := cond_some e1
    simp only [Bool.and_eq_true] at e2
    obtain ⟨⟨⟨h1, h2⟩, h3⟩, h4⟩ := e2
    cases Nat.eq_of_beq_eq_true h1
    rw [fS_eq, fS_eq] at e3
    have k1 := hr _ _ _ _ _ _ _ _ e3 hG P PX hall
    refine hk _ _ P PX _ _ _ _ _ i (fs.map (sd ρ)) (sd ρ _) (sdM_at (ρ := ρ) hM) (by rw [List.length_map]; exact Nat.blt_eq.mp h2) (snar_ok h3) (sfit_ok h4) ?_
    rw [sdM_set] at k1
    rw [← List.map_set]
    exact k1
  · cases e
def oNew (m nx ci N : Nat) (fs : List Value) : Op := fun rec d G L S M => fN M.length (fun h => fS (M ++ [.inl (ci, fs.map .inl)]) (fun M1 => ad2 1 N (rec d m G nx L (.inl (.ref h) :: S) M1)))
theorem ad2_some {a b : Nat} {o : Option sR} {r : sR} (h : ad2 a b o = some r) : ∃ r1, o = some r1 ∧ r = (r1.1, r1.2.1 + a, r1.2.2 + b) := by
  unfold ad2 at h
  split at h
  · cases h
  · cases h; exact ⟨_, rfl, rfl⟩
theorem oNew_ok {ci N : Nat} {fs : List Value} (hk : kNew TT cl X (mis m) pc ci N fs) (hn : pc + 3 = nx) : opOK TT cl X mis en ρ m pc (oNew m nx ci N fs) := by
  intro rec hr dd G L S M r e hG P PX hall
  subst hn
  unfold oNew at e
  rw [fN_eq, fS_eq] at e
  obtain ⟨r1, e1, rfl⟩ := ad2_some e
  have k := hr _ _ _ _ _ _ _ _ e1 hG P PX hall
  refine hk _ _ P PX _ _ _ _ _ ?_
  rw [sdM_len]
  rw [sdM_app] at k
  have e2 : se ρ (.inl (ci, fs.map .inl)) = .inr (ci, fs) := by
    show Sum.inr (ci, (fs.map Sum.inl).map (sd ρ)) = _
    rw [List.map_map]
    congr 2
    exact (List.map_congr_left (fun _ _ => rfl)).trans (List.map_id _)
  rw [show sdM ρ [.inl (ci, fs.map .inl)] = [.inr (ci, fs)] by rw [← e2]; rfl] at k
  exact k
def oCast (m nx ci : Nat) : Op := fun rec d G L S M => match S with
  | r :: S1 => objC M r (fun i c _ => cond (Nat.beq c ci) (rec d m G nx L (.inl (.ref i) :: S1) M) none)
  | _ => none
theorem oCast_ok {ci : Nat} (hk : kCast TT cl X (mis m) pc ci) (hn : pc + 3 = nx) : opOK TT cl X mis en ρ m pc (oCast m nx ci) := by
  intro rec hr dd G L S M r e hG P PX hall
  subst hn
  unfold oCast at e
  split at e
  · obtain ⟨i, c, fs, rfl, hM, e1⟩ := objC_ok e
    obtain ⟨e2, e3⟩ := cond_some e1
    cases Nat.eq_of_beq_eq_true e2
    exact hk _ _ P PX _ _ _ _ _ i (fs.map (sd ρ)) (sdM_at (ρ := ρ) hM) (hr _ _ _ _ _ _ _ _ e3 hG P PX hall)
  · cases e
def oAnew (m nx : Nat) (ty : FieldType) : Op := fun rec d G L S M => match S with
  | .inl (.int x) :: S1 => cond (decide (¬ x < 0 ∧ x.toNatClampNeg ≤ 67108864)) (fN M.length (fun h => fN x.toNatClampNeg (fun n => fS (M ++ [.inr (ty, n, 3, [])]) (fun M1 => ad2 1 n (rec d m G nx L (.inl (.ref h) :: S1) M1))))) none
  | _ => none
theorem oAnew_ok {ty : FieldType} (hk : kAnew TT cl X (mis m) pc ty) (hn : pc + 3 = nx) : opOK TT cl X mis en ρ m pc (oAnew m nx ty) := by
  intro rec hr dd G L S M r e hG P PX hall
  subst hn
  unfold oAnew at e
  split at e
  · obtain ⟨e2, e3⟩ := cond_some e
    have hc := of_decide_eq_true e2
    rw [fN_eq, fN_eq, fS_eq] at e3
    obtain ⟨r1, e1, rfl⟩ := ad2_some e3
    have k := hr _ _ _ _ _ _ _ _ e1 hG P PX hall
    refine hk _ _ P PX _ _ _ _ _ _ hc.1 hc.2 ?_
    rw [sdM_len]
    rw [sdM_app] at k
    exact k
  · cases e
def oNewarr (m nx : Nat) (ty : FieldType) (kd : Nat) : Op := fun rec d G L S M => match S with
  | .inl (.int x) :: S1 => cond (decide (¬ x < 0 ∧ x.toNatClampNeg ≤ 67108864)) (fN M.length (fun h => fN x.toNatClampNeg (fun n => fS (M ++ [.inr (ty, n, kd, [])]) (fun M1 => ad2 1 n (rec d m G nx L (.inl (.ref h) :: S1) M1))))) none
  | _ => none
theorem oNewarr_ok {t : ClassFile.ArrayType} {ty : FieldType} {kd : Nat} (hnw : kNw TT) (d : decode (mis m).2.1 pc = .ok (.newarray t, 2)) (hq : skn t = some (ty, kd)) (hn : pc + 2 = nx) : opOK TT cl X mis en ρ m pc (oNewarr m nx ty kd) := by
  intro rec hr dd G L S M r e hG P PX hall
  subst hn
  unfold oNewarr at e
  split at e
  · obtain ⟨e2, e3⟩ := cond_some e
    have hc := of_decide_eq_true e2
    rw [fN_eq, fN_eq, fS_eq] at e3
    obtain ⟨r1, e1, rfl⟩ := ad2_some e3
    have k := hr _ _ _ _ _ _ _ _ e1 hG P PX hall
    rw [sdM_app] at k
    rw [show M.length = (sdM ρ M).length from sdM_len.symm] at k
    unfold skn at hq
    split at hq
    · cases hq; exact lx_newarray_int d hnw.1 hc.1 rfl hc.2 k
    · cases hq; exact lx_newarray_boolean d hnw.2.1 hc.1 rfl hc.2 k
    · cases hq; exact lx_newarray_char d hnw.2.2.1 hc.1 rfl hc.2 k
    · cases hq; exact lx_newarray_long d hnw.2.2.2.1 hc.1 rfl hc.2 k
    · cases hq; exact lx_newarray_double d hnw.2.2.2.2 hc.1 rfl hc.2 k
    · cases hq
  · cases e
def svs (v : sV) (w : Value) : Bool := match v, w with
  | .inl (.int x), .int y => decide (x = y)
  | _, _ => false
theorem svs_ok {v : sV} {w : Value} (h : svs v w = true) : sd ρ v = w := by
  unfold svs at h
  split at h
  · rw [of_decide_eq_true h]; rfl
  · cases h
/-- new int[2][4][4] and its like: the counts told -/
def oMul3 (m nx : Nat) (v1 v2 v3 : Value) (nw : Nat → List sE) (cc ss : Nat) : Op := fun rec d G L S M => match S with
  | a :: b :: c :: S1 => cond (svs a v1 && svs b v2 && svs c v3) (fN M.length (fun h => fS (M ++ nw h) (fun M1 => ad2 cc ss (rec d m G nx L (.inl (.ref h) :: S1) M1)))) none
  | _ => none
theorem oMul3_ok {v1 v2 v3 : Value} {nw : Nat → List sE} {cc ss : Nat} (hk : kMul TT cl X (mis m) pc [v1, v2, v3] nw cc ss) (hn : pc + 4 = nx) : opOK TT cl X mis en ρ m pc (oMul3 m nx v1 v2 v3 nw cc ss) := by
  intro rec hr dd G L S M r e hG P PX hall
  subst hn
  unfold oMul3 at e
  split at e
  · obtain ⟨e2, e3⟩ := cond_some e
    simp only [Bool.and_eq_true] at e2
    obtain ⟨⟨h1, h2⟩, h3⟩ := e2
    rw [fN_eq, fS_eq] at e3
    obtain ⟨r1, e1, rfl⟩ := ad2_some e3
    have k := hr _ _ _ _ _ _ _ _ e1 hG P PX hall
    rw [sdM_app] at k
    rw [show M.length = (sdM ρ M).length from sdM_len.symm] at k
    have k2 := hk ρ _ _ P PX _ _ _ _ _ k
    have e9 : ∀ S1 : List sV, sdS ρ (_ :: _ :: _ :: S1) = v1 :: v2 :: v3 :: sdS ρ S1 := fun S1 => by rw [← svs_ok (ρ := ρ) h1, ← svs_ok (ρ := ρ) h2, ← svs_ok (ρ := ρ) h3]; rfl
    rw [e9]
    exact k2
  · cases e
def oLen (slen : Nat → Option sV) (m nx : Nat) : Op := fun rec d G L S M => match S with
  | .inl (.retAddr k) :: S1 => (match slen k with
    | some v => rec d m G nx L (v :: S1) M
    | none => none)
  | r :: S1 => arrC M r (fun _ _ n _ _ => fI (Int32.ofNat n) (fun x => rec d m G nx L (.inl (.int x) :: S1) M))
  | _ => none
theorem oLen_ok {slen : Nat → Option sV} (hlen : kLen TT cl X ρ slen) (d : decode (mis m).2.1 pc = .ok (.arraylength, 1)) (hn : pc + 1 = nx) : opOK TT cl X mis en ρ m pc (oLen slen m nx) := by
  intro rec hr dd G L S M r e hG P PX hall
  subst hn
  unfold oLen at e
  split at e
  · split at e
    · rename_i v hv
      exact hlen _ _ hv (mis m) _ _ P PX _ _ _ _ _ _ d (hr _ _ _ _ _ _ _ _ e hG P PX hall)
    · cases e
  · obtain ⟨a, ty, n, kk, us, rfl, hM, e1⟩ := arrC_ok e
    rw [fI_eq] at e1
    have k := hr _ _ _ _ _ _ _ _ e1 hG P PX hall
    have hM1 := sdM_at (ρ := ρ) hM
    match kk, hM1, k with
    | 0, hM1, k => exact lx_arraylength d hM1 k
    | 1, hM1, k => exact lx_arraylength d hM1 k
    | 2, hM1, k => exact lx_arraylength d hM1 k
    | n + 3, hM1, k => exact lx_arraylength d hM1 k
  · cases e
/-- an int told, else the instruction once more with each that it may be -/
theorem sd_con {j : sV} {x : Int32} {S : List sV} (h : sd ρ j = .int x) : sdS ρ (j :: S) = sdS ρ (.inl (.int x) :: S) := by
  show sd ρ j :: _ = Value.int x :: _
  rw [h]
def oIald (m nx : Nat) : Op := fun rec d G L S M => match S with
  | j :: r :: S1 => conF G j (fun x G1 => match r with
    | .inl (.retAddr 1) => (match G1[8]? with
      | some b => cond (decide (¬ x < 0 ∧ x.toNatClampNeg < 6 ∧ (x.toNatClampNeg : Int) < b.1)) (fN x.toNatClampNeg (fun k => rec d m G1 nx L (.inr (false, k) :: S1) M)) none
      | none => none)
    | r => arrC M r (fun _ ty n kd us => match ty, kd with
      | .int, 0 => fV (slook (.inl (.int 0)) x.toNatClampNeg us) (fun v => cond (svin x n && sint v) (rec d m G1 nx L (v :: S1) M) none)
      | _, _ => none))
  | _ => none
theorem oIald_ok (hscr : kScr X ρ) (d : decode (mis m).2.1 pc = .ok (.iaload, 1)) (hn : pc + 1 = nx) : opOK TT cl X mis en ρ m pc (oIald m nx) := by
  intro rec hr dd G L S M r e hG P PX hall
  subst hn
  unfold oIald at e
  split at e
  · rename_i j r0 S1
    obtain ⟨x, h1, G1, r1, e1, h4, j1, j2, j3⟩ := conF_ok hG e
    rw [sd_con h1]
    split at e1
    · split at e1
      · rename_i b hb
        obtain ⟨e2, e3⟩ := cond_some e1
        have hc := of_decide_eq_true e2
        rw [fN_eq] at e3
        have k := gd_of j1 j2 j3 h4 (hr _ _ _ _ _ _ _ _ e3) hG P PX hall
        obtain ⟨L9, xs, hXI, h6, hl, hx⟩ := hscr
        have h8 := (h4 8 b hb).1
        refine lx_xload d (by decide) hXI (fun q => ?_) ?_
        · rcases q with q | q
          · exact hc.1 q
          · have := hc.2.2; omega
        · rw [← hx _ hc.2.1]; exact k
      · cases e1
    · obtain ⟨a, ty, n, kk, us, rfl, hM, e2⟩ := arrC_ok e1
      split at e2
      · rw [fV_eq] at e2
        obtain ⟨e3, e4⟩ := cond_some e2
        rw [Bool.and_eq_true] at e3
        have k := gd_of j1 j2 j3 h4 (hr _ _ _ _ _ _ _ _ e4) hG P PX hall
        have hM1 := sdM_at (ρ := ρ) hM
        refine lx_iaload d hM1 (svin_ok e3.1) ?_
        rw [← sld_i e3.2]
        exact k
      · cases e2
  · cases e
def oLald (m nx : Nat) : Op := fun rec d G L S M => match S with
  | .inl (.int x) :: r :: S1 => arrC M r (fun _ ty n kd us => match ty, kd with
      | .long, 1 => fV (slook (.inl (.long 0)) x.toNatClampNeg us) (fun v => cond (svin x n && svty 1 v) (rec d m G nx L (v :: S1) M) none)
      | _, _ => none)
  | _ => none
theorem oLald_ok (d : decode (mis m).2.1 pc = .ok (.laload, 1)) (hn : pc + 1 = nx) : opOK TT cl X mis en ρ m pc (oLald m nx) := by
  intro rec hr dd G L S M r e hG P PX hall
  subst hn
  unfold oLald at e
  split at e
  · obtain ⟨a, ty, n, kk, us, rfl, hM, e2⟩ := arrC_ok e
    split at e2
    · rw [fV_eq] at e2
      obtain ⟨e3, e4⟩ := cond_some e2
      rw [Bool.and_eq_true] at e3
      have k := hr _ _ _ _ _ _ _ _ e4 hG P PX hall
      have hM1 := sdM_at (ρ := ρ) hM
      refine lx_laload d hM1 (svin_ok e3.1) ?_
      rw [← sld_l e3.2]
      exact k
    · cases e2
  · cases e
def oAald (m nx : Nat) : Op := fun rec d G L S M => match S with
  | j :: r :: S1 => conF G j (fun x G1 => arrC M r (fun _ ty n kd us => match kd with
    | 3 => fV (slook (.inl .null) x.toNatClampNeg us) (fun v => match v with
      | .inl (.ref w) => cond (svin x n && ty.isReference) (rec d m G1 nx L (.inl (.ref w) :: S1) M) none
      | .inl .null => cond (svin x n && ty.isReference) (rec d m G1 nx L (.inl .null :: S1) M) none
      | _ => none)
    | _ => none))
  | _ => none
theorem oAald_ok (d : decode (mis m).2.1 pc = .ok (.aaload, 1)) (hn : pc + 1 = nx) : opOK TT cl X mis en ρ m pc (oAald m nx) := by
  intro rec hr dd G L S M r e hG P PX hall
  subst hn
  unfold oAald at e
  split at e
  · rename_i j r0 S1
    obtain ⟨x, h1, G1, r1, e1, h4, j1, j2, j3⟩ := conF_ok hG e
    rw [sd_con h1]
    obtain ⟨a, ty, n, kk, us, rfl, hM, e2⟩ := arrC_ok e1
    split at e2
    · rw [fV_eq] at e2
      split at e2
      · rename_i w hw
        obtain ⟨e3, e4⟩ := cond_some e2
        rw [Bool.and_eq_true] at e3
        have k := gd_of j1 j2 j3 h4 (hr _ _ _ _ _ _ _ _ e4) hG P PX hall
        have hM1 := sdM_at (ρ := ρ) hM
        refine lx_aald e3.2 d hM1 (svin_ok e3.1) ?_
        rw [sfq_at, hw]
        exact k
      · rename_i hw
        obtain ⟨e3, e4⟩ := cond_some e2
        rw [Bool.and_eq_true] at e3
        have k := gd_of j1 j2 j3 h4 (hr _ _ _ _ _ _ _ _ e4) hG P PX hall
        have hM1 := sdM_at (ρ := ρ) hM
        refine lx_aald e3.2 d hM1 (svin_ok e3.1) ?_
        rw [sfq_at, hw]
        exact k
      · cases e2
    · cases e2
  · cases e
def oIast (m nx : Nat) : Op := fun rec d G L S M => match S with
  | v :: j :: r :: S1 => conF G j (fun x G1 => arrC M r (fun i ty n kd us => match ty, kd with
    | .int, 0 => cond (svin x n && sint v) (fN x.toNatClampNeg (fun k => fS (M.set i (.inr (.int, n, 0, (k, v) :: us))) (fun M1 => rec d m G1 nx L S1 M1))) none
    | _, _ => none))
  | _ => none
theorem oIast_ok (d : decode (mis m).2.1 pc = .ok (.iastore, 1)) (hn : pc + 1 = nx) : opOK TT cl X mis en ρ m pc (oIast m nx) := by
  intro rec hr dd G L S M r e hG P PX hall
  subst hn
  unfold oIast at e
  split at e
  · rename_i v j r0 S1
    obtain ⟨x, h1, G1, r1, e1, h4, j1, j2, j3⟩ := conF_ok hG e
    have e9 : sdS ρ (v :: j :: r0 :: S1) = sd ρ v :: sdS ρ (.inl (.int x) :: r0 :: S1) := by rw [← sd_con h1]; rfl
    rw [e9]
    obtain ⟨a, ty, n, kk, us, rfl, hM, e2⟩ := arrC_ok e1
    split at e2
    · obtain ⟨e3, e4⟩ := cond_some e2
      rw [Bool.and_eq_true] at e3
      rw [fN_eq, fS_eq] at e4
      have k := gd_of j1 j2 j3 h4 (hr _ _ _ _ _ _ _ _ e4) hG P PX hall
      have hM1 := sdM_at (ρ := ρ) hM
      have hy := sint_eq (ρ := ρ) e3.2
      rw [sdM_set] at k
      have k2 := lx_iastore d hM1 (svin_ok e3.1) k
      rw [← hy] at k2
      exact k2
    · cases e2
  · cases e
def oLast (m nx : Nat) : Op := fun rec d G L S M => match S with
  | v :: .inl (.int x) :: r :: S1 => arrC M r (fun i ty n kd us => match ty, kd with
    | .long, 1 => cond (svin x n && svty 1 v) (fN x.toNatClampNeg (fun k => fS (M.set i (.inr (.long, n, 1, (k, v) :: us))) (fun M1 => rec d m G nx L S1 M1))) none
    | _, _ => none)
  | _ => none
theorem oLast_ok (d : decode (mis m).2.1 pc = .ok (.lastore, 1)) (hn : pc + 1 = nx) : opOK TT cl X mis en ρ m pc (oLast m nx) := by
  intro rec hr dd G L S M r e hG P PX hall
  subst hn
  unfold oLast at e
  split at e
  · obtain ⟨a, ty, n, kk, us, rfl, hM, e2⟩ := arrC_ok e
    split at e2
    · obtain ⟨e3, e4⟩ := cond_some e2
      rw [Bool.and_eq_true] at e3
      rw [fN_eq, fS_eq] at e4
      have k := hr _ _ _ _ _ _ _ _ e4 hG P PX hall
      have hM1 := sdM_at (ρ := ρ) hM
      have hy := slng_eq (ρ := ρ) e3.2
      rw [sdM_set] at k
      have k2 := lx_lastore d hM1 (svin_ok e3.1) k
      rw [← hy] at k2
      exact k2
    · cases e2
  · cases e
def oCast2 (m nx : Nat) : Op := fun rec d G L S M => match S with
  | .inl (.int y) :: .inl (.int x) :: r :: S1 => arrC M r (fun i ty n kd us => match ty, kd with
    | .char, 0 => cond (svin x n) (fN x.toNatClampNeg (fun k => fI (vp_nar .char y) (fun y1 => fS (M.set i (.inr (.char, n, 0, (k, .inl (.int y1)) :: us))) (fun M1 => rec d m G nx L S1 M1)))) none
    | _, _ => none)
  | _ => none
theorem oCast2_ok (d : decode (mis m).2.1 pc = .ok (.castore, 1)) (hn : pc + 1 = nx) : opOK TT cl X mis en ρ m pc (oCast2 m nx) := by
  intro rec hr dd G L S M r e hG P PX hall
  subst hn
  unfold oCast2 at e
  split at e
  · obtain ⟨a, ty, n, kk, us, rfl, hM, e2⟩ := arrC_ok e
    split at e2
    · obtain ⟨e3, e4⟩ := cond_some e2
      rw [fN_eq, fI_eq, fS_eq] at e4
      have k := hr _ _ _ _ _ _ _ _ e4 hG P PX hall
      have hM1 := sdM_at (ρ := ρ) hM
      rw [sdM_set] at k
      exact lx_castore d hM1 (svin_ok e3) k
    · cases e2
  · cases e
def oAast (m nx : Nat) (cs : List Nat) (tt : FieldType) : Op := fun rec d G L S M => match S with
  | v :: .inl (.int x) :: r :: S1 => objC M v (fun w c _ => arrC M r (fun i ty n kd us => match kd with
    | 3 => cond (svin x n && cs.any (Nat.beq c) && decide (ty = tt)) (fN x.toNatClampNeg (fun k => fS (M.set i (.inr (ty, n, 3, (k, .inl (.ref w)) :: us))) (fun M1 => rec d m G nx L S1 M1))) none
    | _ => none))
  | _ => none
theorem oAast_ok {cs : List Nat} {tt : FieldType} (hk : ∀ ci, ci ∈ cs → kAst TT cl X (mis m) pc ci tt) (hn : pc + 1 = nx) : opOK TT cl X mis en ρ m pc (oAast m nx cs tt) := by
  intro rec hr dd G L S M r e hG P PX hall
  subst hn
  unfold oAast at e
  split at e
  · obtain ⟨w, c, fs, rfl, hO, e1⟩ := objC_ok e
    obtain ⟨a, ty, n, kk, us, rfl, hM, e2⟩ := arrC_ok e1
    split at e2
    · obtain ⟨e3, e4⟩ := cond_some e2
      simp only [Bool.and_eq_true] at e3
      obtain ⟨⟨e5, e6⟩, e7⟩ := e3
      obtain ⟨c1, e61, e62⟩ := List.any_eq_true.mp e6
      cases Nat.eq_of_beq_eq_true e62
      have e8 : ty = tt := of_decide_eq_true e7
      subst e8
      rw [fN_eq, fS_eq] at e4
      have k := hr _ _ _ _ _ _ _ _ e4 hG P PX hall
      have hM1 := sdM_at (ρ := ρ) hM
      have hO1 := sdM_at (ρ := ρ) hO
      rw [sdM_set] at k
      exact hk _ e61 _ _ P PX _ _ _ _ _ _ _ _ _ _ _ hM1 hO1 (svin_ok e5) k
    · cases e2
  · cases e
def oAcmp (m nx tgt : Nat) (eq : Bool) : Op := fun rec d G L S M => match S with
  | .inl (.retAddr k) :: .inl (.retAddr j) :: S1 => cond (Nat.beq j k && !Nat.beq j 0) (rec d m G (cond eq tgt nx) L S1 M) none
  | _ => none
theorem oAcmp_ok {off : Int} {tgt : Nat} (d : decode (mis m).2.1 pc = .ok (.if_acmp .eq off, 3)) (ht : (pc : Int) + off = (tgt : Int)) : opOK TT cl X mis en ρ m pc (oAcmp m nx tgt true) := by
  intro rec hr dd G L S M r e hG P PX hall
  unfold oAcmp at e
  split at e
  · obtain ⟨e2, e3⟩ := cond_some e
    rw [Bool.and_eq_true] at e2
    cases Nat.eq_of_beq_eq_true e2.1
    have h0 := e2.2
    refine lx_acmp_same d ht (fun q => ?_) ?_
    · subst q; cases h0
    · exact hr _ _ _ _ _ _ _ _ e3 hG P PX hall
  · cases e
theorem oAcmpN_ok {off : Int} {tgt : Nat} (d : decode (mis m).2.1 pc = .ok (.if_acmp .ne off, 3)) (ht : (pc : Int) + off = (tgt : Int)) (hn : pc + 3 = nx) : opOK TT cl X mis en ρ m pc (oAcmp m nx tgt false) := by
  intro rec hr dd G L S M r e hG P PX hall
  subst hn
  unfold oAcmp at e
  split at e
  · obtain ⟨e2, e3⟩ := cond_some e
    rw [Bool.and_eq_true] at e2
    cases Nat.eq_of_beq_eq_true e2.1
    have h0 := e2.2
    refine lx_acmp_same d ht (fun q => ?_) ?_
    · subst q; cases h0
    · exact hr _ _ _ _ _ _ _ _ e3 hG P PX hall
  · cases e
end FX3
end
section
section FX4
variable {TT : List Cond} {cl : List vw_C} {X : XT} {mis : Nat → MI} {en : Nat → String} {ρ : Nat → Int32} {m pc nx : Nat} {i : Instr} {len : Nat}
/-- the end of a method: with a word -/
def oRet (ty : FieldType) (t : Nat) : Op := fun _ _ G _ S M => match S with
  | [v] => cond (svty t v && (!Nat.beq t 0 || (snar ty v && sint v))) (some ([(G, .inl (some v), M)], 0, 0)) none
  | _ => none
def srk (i : Instr) : Option Nat := match i with
  | .ireturn => some 0
  | .lreturn => some 1
  | .freturn => some 2
  | .dreturn => some 3
  | .areturn => some 4
  | _ => none
def srt (t : Nat) (ty : FieldType) : Bool := match t, ty with
  | 0, _ => true
  | 1, .long => true
  | 2, .float => true
  | 3, .double => true
  | 4, .object _ => true
  | 4, .array _ => true
  | _, _ => false
theorem oRet_ok {t : Nat} {ty : FieldType} (hi : srk i = some t) (ht : srt t ty = true) (d : decode (mis m).2.1 pc = .ok (i, 1)) (hrt : (mis m).2.2.2.1 = some ty) : opOK TT cl X mis en ρ m pc (oRet ty t) := by
  intro rec hr dd G L S M r e hG P PX hall
  unfold oRet at e
  split at e
  · obtain ⟨e2, e3⟩ := cond_some e
    cases e3
    have hp := hall _ (List.mem_singleton.mpr rfl) hG
    rw [Bool.and_eq_true, Bool.or_eq_true] at e2
    have hv := svty_ok (ρ := ρ) e2.1
    unfold srk at hi
    split at hi
    · cases hi
      have e4 := e2.2.resolve_left (by decide)
      rw [Bool.and_eq_true] at e4
      obtain ⟨x, hx⟩ := sint_ok (ρ := ρ) e4.2
      have hn := snar_ok (ρ := ρ) e4.1
      rw [hx] at hn
      have e9 : ∀ v : sV, sd ρ v = .int x → sdS ρ [v] = [.int x] := fun v hv => by show [sd ρ v] = _; rw [hv]
      rw [e9 _ hx]
      refine lx_ireturn d hrt hn ?_
      rw [← hx]; exact hp
    · cases hi
      obtain ⟨x, hx⟩ := vty_1 hv
      have e9 : ∀ v : sV, sd ρ v = .long x → sdS ρ [v] = [.long x] := fun v hv => by show [sd ρ v] = _; rw [hv]
      rw [e9 _ hx]
      unfold srt at ht
      split at ht <;> first | (cases ht; done) | skip
      all_goals first | (rename_i h0; cases h0; done) | (rename_i h0 _; cases h0; done) | skip
      refine lx_lreturn d hrt ?_
      rw [← hx]; exact hp
    · cases hi
      obtain ⟨x, hx⟩ := vty_2 hv
      have e9 : ∀ v : sV, sd ρ v = .float x → sdS ρ [v] = [.float x] := fun v hv => by show [sd ρ v] = _; rw [hv]
      rw [e9 _ hx]
      unfold srt at ht
      split at ht <;> first | (cases ht; done) | skip
      all_goals first | (rename_i h0; cases h0; done) | (rename_i h0 _; cases h0; done) | skip
      refine lx_freturn d hrt ?_
      rw [← hx]; exact hp
    · cases hi
      obtain ⟨x, hx⟩ := vty_3 hv
      have e9 : ∀ v : sV, sd ρ v = .double x → sdS ρ [v] = [.double x] := fun v hv => by show [sd ρ v] = _; rw [hv]
      rw [e9 _ hx]
      unfold srt at ht
      split at ht <;> first | (cases ht; done) | skip
      all_goals first | (rename_i h0; cases h0; done) | (rename_i h0 _; cases h0; done) | skip
      refine lx_dreturn d hrt ?_
      rw [← hx]; exact hp
    · cases hi
      have key : (∃ n, ty = .object n) ∨ ∃ t, ty = .array t := by
        unfold srt at ht
        split at ht <;> first | (cases ht; done) | skip
        all_goals first | (rename_i h0; cases h0; done) | (rename_i h0 _; cases h0; done) | skip
        · exact Or.inl ⟨_, rfl⟩
        · exact Or.inr ⟨_, rfl⟩
      exact lx_areturn d hrt key (vty_4 hv) hp
    · cases hi
  · cases e
def oRet0 : Op := fun _ _ G _ S M => match S with
  | [] => some ([(G, .inl none, M)], 0, 0)
  | _ => none
theorem oRet0_ok (d : decode (mis m).2.1 pc = .ok (.return_, 1)) (hrt : (mis m).2.2.2.1 = none) : opOK TT cl X mis en ρ m pc oRet0 := by
  intro rec hr dd G L S M r e hG P PX hall
  unfold oRet0 at e
  split at e
  · cases e
    exact lx_return d hrt (hall _ (List.mem_singleton.mpr rfl) hG)
  · cases e
/-- throw new E("..") -/
def oThrow (E kf kl : Nat) : Op := fun _ _ G _ S M => cond (Nat.ble kf 40 && Nat.ble ((S.map scat).sum + kl) 1000) (some ([(G, .inr E, M)], 1, 6)) none
theorem oThrow_ok {E kf kl : Nat} (hk : kThr TT cl X (mis m) pc (en E) kf kl) : opOK TT cl X mis en ρ m pc (oThrow E kf kl) := by
  intro rec hr dd G L S M r e hG P PX hall
  unfold oThrow at e
  obtain ⟨e2, e3⟩ := cond_some e
  cases e3
  rw [Bool.and_eq_true] at e2
  have h1 := Nat.le_of_ble_eq_true e2.1
  have h2 := Nat.le_of_ble_eq_true e2.2
  exact hk _ _ P PX 0 0 _ _ _ (by omega) (by rw [sdS_sum]; omega) (hall _ (List.mem_singleton.mpr rfl) hG)
def oObj (m nx : Nat) : Op := fun rec d G L S M => match S with
  | .inl (.ref _) :: S1 => cond (Nat.ble ((S1.map scat).sum) 900) (rec d m G nx L S1 M) none
  | _ => none
theorem oObj_ok (hk : kObj TT cl X (mis m) pc) (hn : pc + 3 = nx) : opOK TT cl X mis en ρ m pc (oObj m nx) := by
  intro rec hr dd G L S M r e hG P PX hall
  subst hn
  unfold oObj at e
  split at e
  · obtain ⟨e2, e3⟩ := cond_some e
    have h2 := Nat.le_of_ble_eq_true e2
    exact hk _ _ P PX _ _ _ _ _ _ (by omega) (by show ((sdS ρ _).map fun v => v.category).sum + 12 ≤ _; rw [sdS_sum]; omega) (hr _ _ _ _ _ _ _ _ e3 hG P PX hall)
  · cases e
-- ===== calls =====
abbrev RunK : Type := RK → Nat → sG → List sV → List sE → Option sR
def runC (y : Nat) : RunK := fun rec d1 G a M => argsC 0 a (fun L0 => rec d1 y G 0 L0 [] M)
def rcv (t rc : Nat) (M : List sE) (a : List sV) : Bool := match t with
  | 1 => true
  | 4 => true
  | 3 => (match a with
    | .inl (.ref _) :: _ => true
    | _ => false)
  | _ => (match a with
    | .inl (.ref j) :: _ => (match M[j]? with
      | some (.inl (ci, _)) => Nat.beq ci rc
      | _ => false)
    | _ => false)
theorem rcv2_ok {t rc : Nat} {M : List sE} {a : List sV} (h : rcv t rc M a = true) (ht : t = 2 ∨ t = 5) : ∃ (i : Nat) (fs : List Value) (a1 : List Value), sdS ρ a = .ref i :: a1 ∧ (sdM ρ M)[i]? = some (.inr (rc, fs)) := by
  have key : ∀ b : List sV, (match b with
    | .inl (.ref j) :: _ => (match M[j]? with
      | some (.inl (ci, _)) => Nat.beq ci rc
      | _ => false)
    | _ => false) = true → ∃ (i : Nat) (fs : List Value) (a1 : List Value), sdS ρ b = .ref i :: a1 ∧ (sdM ρ M)[i]? = some (.inr (rc, fs)) := by
    intro b hb
    split at hb
    · split at hb
      · rename_i hM
        cases Nat.eq_of_beq_eq_true hb
        exact ⟨_, _, _, rfl, sdM_at (ρ := ρ) hM⟩
      · cases hb
    · cases hb
  rcases ht with rfl | rfl
  · exact key a h
  · exact key a h
theorem rcv3_ok {rc : Nat} {M : List sE} {a : List sV} (h : rcv 3 rc M a = true) : ∃ (i : Nat) (a1 : List Value), sdS ρ a = .ref i :: a1 := by
  have key : ∀ b : List sV, (match b with
    | .inl (.ref _) :: _ => true
    | _ => false) = true → ∃ (i : Nat) (a1 : List Value), sdS ρ b = .ref i :: a1 := by
    intro b hb
    split at hb
    · exact ⟨_, _, rfl⟩
    · cases hb
  exact key a h
def contF (rec : RK) (hd : Nat → Option (Option Nat)) (d m nx : Nat) (L : List (Nat × sV)) (S : List sV) (lf : sF) : Option sR := match lf with
  | (G1, .inl none, M1) => rec d m G1 nx L S M1
  | (G1, .inl (some v), M1) => rec d m G1 nx L (v :: S) M1
  | (G1, .inr E, M1) => (match hd E with
    | some (some h) => rec d m G1 h L [.inl (.retAddr 0)] M1
    | some none => some ([(G1, .inr E, M1)], 0, 0)
    | none => none)
def oCall (run : RunK) (m nx t n rc ml : Nat) (hd : Nat → Option (Option Nat)) : Op := fun rec d G L S M => match d with
  | 0 => none
  | d1 + 1 => takeR (fun a S1 => cond (rcv t rc M a && Nat.ble ((S1.map scat).sum) 8 && Nat.ble (swid a) ml)
      (match run rec d1 G a M with
        | none => none
        | some r => cond (snt t && r.1.any sexc) none (ad2 r.2.1 r.2.2 (fJ (contF rec hd d m nx L S1) r.1))) none) n [] S
def runOK (TT : List Cond) (cl : List vw_C) (X : XT) (mis : Nat → MI) (en : Nat → String) (ρ : Nat → Int32) (y : Nat) (run : RunK) : Prop :=
  ∀ rec, rGood TT cl X mis en ρ rec → ∀ d1 G a M r, run rec d1 G a M = some r → swid a ≤ (mis y).2.2.1 → sSat ρ G →
    ∀ (P : Option Value → mH → Prop) (PX : String → mH → Prop), (∀ lf, lf ∈ r.1 → sSat ρ lf.1 → slf ρ en P PX lf) → EV TT cl X (mis y) (40 + d1) (1000 + 200 * d1) r.2.1 r.2.2 (sdS ρ a) (sdM ρ M) P PX
theorem runC_ok {y : Nat} (hX : mj_XOK X) (hpl : plainName (mis y).1.cls = true) : runOK TT cl X mis en ρ y (runC y) := by
  intro rec hr d1 G a M r e hw hG P PX hall
  unfold runC at e
  rw [argsC_eq] at e
  refine ev_of hX hpl (by rw [swid_ok]; exact hw) ?_
  rw [sargs_ok]
  exact hr _ _ _ _ _ _ _ _ e hG P PX hall
theorem oCall_ok {run : RunK} {y t n rc ml : Nat} {hd : Nat → Option (Option Nat)} (hrun : runOK TT cl X mis en ρ y run) (hk : kCall TT cl X (mis m) pc len (mis y) t n rc) (hml : (mis y).2.2.1 = ml) (hml2 : ml ≤ 150) (hn : pc + len = nx)
    (hhd : ∀ (E : Nat) (o : Option Nat), hd E = some o → ∀ (fr lo : Nat) (P : Option Value → mH → Prop) (PX : String → mH → Prop) (kc ks : Nat) (L : List (Nat × Value)) (M : mH), match o with
      | some h => LX TT cl X (mis m) fr lo P PX kc ks h L [.retAddr 0] M → LT TT cl X (mis m) fr lo P PX kc ks pc L (en E) M
      | none => PX (en E) M → LT TT cl X (mis m) fr lo P PX kc ks pc L (en E) M) : opOK TT cl X mis en ρ m pc (oCall run m nx t n rc ml hd) := by
  intro rec hr dd G L S M r e hG P PX hall
  subst hn
  subst hml
  unfold oCall at e
  split at e
  · cases e
  · rename_i d1
    obtain ⟨hnS, e1⟩ := takeR_ok e
    rw [List.append_nil] at e1
    obtain ⟨hc, e2⟩ := cond_some e1
    simp only [Bool.and_eq_true] at hc
    obtain ⟨⟨hc1, hc2⟩, hc3⟩ := hc
    have hc2 := Nat.le_of_ble_eq_true hc2
    have hc3 := Nat.le_of_ble_eq_true hc3
    split at e2
    · cases e2
    · rename_i r1 hr1
      cases hnt : (snt t && r1.1.any sexc) with
      | true => rw [hnt] at e2; cases e2
      | false =>
        rw [hnt] at e2
        obtain ⟨q, hq, rfl⟩ := ad2_some e2
        have hj := fJ_ok hq
        have hev : ∀ (P1 : Option Value → mH → Prop) (PX1 : String → mH → Prop), (∀ lf, lf ∈ r1.1 → sSat ρ lf.1 → slf ρ en P1 PX1 lf) → EV TT cl X (mis y) (40 + d1) (1000 + 200 * d1) r1.2.1 r1.2.2 (sdS ρ (S.take n).reverse) (sdM ρ M) P1 PX1 :=
          fun P1 PX1 hP1 => hrun rec hr _ _ _ _ _ hr1 hc3 hG P1 PX1 hP1
        have k := hk (40 + (d1 + 1)) (1000 + 200 * (d1 + 1)) (40 + d1) (1000 + 200 * d1) P PX (fun v M1 => ∃ lf, lf ∈ r1.1 ∧ sSat ρ lf.1 ∧ ∃ v1, lf.2.1 = .inl v1 ∧ v = v1.map (sd ρ) ∧ M1 = sdM ρ lf.2.2) (fun E M1 => ∃ lf, lf ∈ r1.1 ∧ sSat ρ lf.1 ∧ ∃ E1, lf.2.1 = .inr E1 ∧ E = en E1 ∧ M1 = sdM ρ lf.2.2)
          q.2.1 q.2.2 r1.2.1 r1.2.2 (sdL ρ L) (sdS ρ (S.drop n)) (sdM ρ M) (sdS ρ (S.take n).reverse)
          (by unfold sdS; rw [List.length_map, List.length_reverse, List.length_take]; omega) (rcv2_ok hc1) (fun h3 => by rw [h3] at hc1; exact rcv3_ok hc1)
          (fun hnt1 E M1 hz => by
            obtain ⟨lf, z1, z2, E1, z3, z4, z5⟩ := hz
            rw [hnt1, Bool.true_and] at hnt
            have : r1.1.any sexc = true := List.any_eq_true.mpr ⟨lf, z1, by unfold sexc; rw [z3]⟩
            rw [this] at hnt
            cases hnt)
          (hev _ _ (fun lf z1 z2 => by
            unfold slf
            split
            · rename_i v1 hv1; exact ⟨lf, z1, z2, v1, hv1, rfl, rfl⟩
            · rename_i E1 hE1; exact ⟨lf, z1, z2, E1, hE1, rfl, rfl⟩))
          ⟨by omega, by omega⟩ (by rw [sdS_sum]; exact hc2)
          (fun E M1 hz => by
            obtain ⟨lf, z1, z2, E1, z3, z4, z5⟩ := hz
            subst z4; subst z5
            obtain ⟨o, ho, j1, j2, j3⟩ := hj _ z1
            obtain ⟨G1, out, M2⟩ := lf
            cases z3
            dsimp only [contF] at ho
            split at ho
            · rename_i h9 hh
              refine hhd _ _ hh _ _ P PX _ _ _ _ ?_
              exact gd_of j1 j2 j3 z2 (hr _ _ _ _ _ _ _ _ ho) hG P PX hall
            · rename_i hh
              cases ho
              exact hhd _ _ hh _ _ P PX _ _ _ _ (hall _ (j1 _ (List.mem_singleton.mpr rfl)) z2)
            · cases ho)
          (fun v M1 hz => by
            obtain ⟨lf, z1, z2, v1, z3, z4, z5⟩ := hz
            subst z4; subst z5
            obtain ⟨o, ho, j1, j2, j3⟩ := hj _ z1
            obtain ⟨G1, out, M2⟩ := lf
            cases z3
            cases v1 with
            | none => exact gd_of j1 j2 j3 z2 (hr _ _ _ _ _ _ _ _ (show rec (d1 + 1) m G1 (pc + len) L (S.drop n) M2 = some o from ho)) hG P PX hall
            | some v1 => exact gd_of j1 j2 j3 z2 (hr _ _ _ _ _ _ _ _ (show rec (d1 + 1) m G1 (pc + len) L (v1 :: S.drop n) M2 = some o from ho)) hG P PX hall)
        rw [← sdS_rev, ← sdS_app, List.reverse_reverse, List.take_append_drop] at k
        refine lx_room ?_ ?_ k
        · dsimp only; omega
        · dsimp only; omega
end FX4
end
section
section FX10
def mi_0 : MI := (⟨"Miterhouse", "<init>", "()V"⟩, prog_1_method_1_code, 1, (Option.none : Option Jvm.ClassFile.FieldType), [])
def mi_1 : MI := (⟨"Miterhouse", "allDiagrams", "()I"⟩, prog_1_method_26_code, 1, (Option.some Jvm.ClassFile.FieldType.int), [])
def mi_2 : MI := (⟨"Miterhouse", "ands", "()I"⟩, prog_1_method_11_code, 1, (Option.some Jvm.ClassFile.FieldType.int), [])
def mi_3 : MI := (⟨"Miterhouse", "areSame", "(I)Z"⟩, prog_1_method_33_code, 5, (Option.some Jvm.ClassFile.FieldType.boolean), [])
def mi_4 : MI := (⟨"Miterhouse", "candidates", "(I)I"⟩, prog_1_method_15_code, 2, (Option.some Jvm.ClassFile.FieldType.int), [])
def mi_5 : MI := (⟨"Miterhouse", "cell", "(III)I"⟩, prog_1_method_3_code, 4, (Option.some Jvm.ClassFile.FieldType.int), [])
def mi_6 : MI := (⟨"Miterhouse", "cellClasses", "()I"⟩, prog_1_method_39_code, 1, (Option.some Jvm.ClassFile.FieldType.int), [])
def mi_7 : MI := (⟨"Miterhouse", "close", "()I"⟩, prog_1_method_7_code, 2, (Option.some Jvm.ClassFile.FieldType.int), [])
def mi_8 : MI := (⟨"Miterhouse", "coefficient", "(IIII)I"⟩, prog_1_method_32_code, 7, (Option.some Jvm.ClassFile.FieldType.int), [])
def mi_9 : MI := (⟨"Miterhouse", "constrain", "(I)I"⟩, prog_1_method_8_code, 3, (Option.some Jvm.ClassFile.FieldType.int), [])
def mi_10 : MI := (⟨"Miterhouse", "correspond", "(IIZ)Z"⟩, prog_1_method_38_code, 5, (Option.some Jvm.ClassFile.FieldType.boolean), [])
def mi_11 : MI := (⟨"Miterhouse", "cutAt", "(IIII)I"⟩, prog_1_method_29_code, 9, (Option.some Jvm.ClassFile.FieldType.int), [])
def mi_12 : MI := (⟨"Miterhouse", "cuts", "(II)I"⟩, prog_1_method_28_code, 3, (Option.some Jvm.ClassFile.FieldType.int), [])
def mi_13 : MI := (⟨"Miterhouse", "data", "(II)I"⟩, prog_1_method_5_code, 3, (Option.some Jvm.ClassFile.FieldType.int), [])
def mi_14 : MI := (⟨"Miterhouse", "diagram", "(II)I"⟩, prog_1_method_25_code, 4, (Option.some Jvm.ClassFile.FieldType.int), [])
def mi_15 : MI := (⟨"Miterhouse", "difference", "()I"⟩, prog_1_method_41_code, 2, (Option.some Jvm.ClassFile.FieldType.int), [])
def mi_16 : MI := (⟨"Miterhouse", "gate", "(ICII)I"⟩, prog_1_method_4_code, 7, (Option.some Jvm.ClassFile.FieldType.int), [])
def mi_17 : MI := (⟨"Miterhouse", "input", "()I"⟩, prog_1_method_2_code, 1, (Option.some Jvm.ClassFile.FieldType.int), [])
def mi_18 : MI := (⟨"Miterhouse", "isIdle", "(I)Z"⟩, prog_1_method_36_code, 2, (Option.some Jvm.ClassFile.FieldType.boolean), [])
def mi_19 : MI := (⟨"Miterhouse", "isInductive", "(I)Z"⟩, prog_1_method_43_code, 2, (Option.some Jvm.ClassFile.FieldType.boolean), [])
def mi_20 : MI := (⟨"Miterhouse", "isInvariant", "(I)Z"⟩, prog_1_method_44_code, 2, (Option.some Jvm.ClassFile.FieldType.boolean), [])
def mi_21 : MI := (⟨"Miterhouse", "isPairKind", "(C)Z"⟩, prog_1_method_59_code, 1, (Option.some Jvm.ClassFile.FieldType.boolean), [])
def mi_22 : MI := (⟨"Miterhouse", "isSound", "()Z"⟩, prog_1_method_49_code, 1, (Option.some Jvm.ClassFile.FieldType.boolean), [])
def mi_23 : MI := (⟨"Miterhouse", "lines", "()I"⟩, prog_1_method_46_code, 1, (Option.some Jvm.ClassFile.FieldType.int), [])
def mi_24 : MI := (⟨"Miterhouse", "literal", "(I)I"⟩, prog_1_method_10_code, 2, (Option.some Jvm.ClassFile.FieldType.int), [])
def mi_25 : MI := (⟨"Miterhouse", "meanSeen", "()D"⟩, prog_1_method_48_code, 2, (Option.some Jvm.ClassFile.FieldType.double), [])
def mi_26 : MI := (⟨"Miterhouse", "mergeProofs", "()J"⟩, prog_1_method_21_code, 1, (Option.some Jvm.ClassFile.FieldType.long), [])
def mi_27 : MI := (⟨"Miterhouse", "merged", "(I)I"⟩, prog_1_method_20_code, 2, (Option.some Jvm.ClassFile.FieldType.int), [])
def mi_28 : MI := (⟨"Miterhouse", "mergedShare", "()F"⟩, prog_1_method_47_code, 2, (Option.some Jvm.ClassFile.FieldType.float), [])
def mi_29 : MI := (⟨"Miterhouse", "mustBeChoice", "(I)V"⟩, prog_1_method_54_code, 2, (Option.none : Option Jvm.ClassFile.FieldType), [])
def mi_30 : MI := (⟨"Miterhouse", "mustBeClosed", "()LMiterhouse$Closed;"⟩, prog_1_method_51_code, 1, (Option.some (Jvm.ClassFile.FieldType.object "Miterhouse$Closed")), [])
def mi_31 : MI := (⟨"Miterhouse", "mustBeLine", "(I)V"⟩, prog_1_method_52_code, 2, (Option.none : Option Jvm.ClassFile.FieldType), [])
def mi_32 : MI := (⟨"Miterhouse", "mustBeOpen", "()V"⟩, prog_1_method_50_code, 1, (Option.none : Option Jvm.ClassFile.FieldType), [])
def mi_33 : MI := (⟨"Miterhouse", "mustBeWithin", "(III)V"⟩, prog_1_method_58_code, 3, (Option.none : Option Jvm.ClassFile.FieldType), [])
def mi_34 : MI := (⟨"Miterhouse", "mustHaveCuts", "(II)LMiterhouse$Cuts;"⟩, prog_1_method_55_code, 4, (Option.some (Jvm.ClassFile.FieldType.object "Miterhouse$Cuts")), [])
def mi_35 : MI := (⟨"Miterhouse", "normal", "(II)I"⟩, prog_1_method_31_code, 3, (Option.some Jvm.ClassFile.FieldType.int), [])
def mi_36 : MI := (⟨"Miterhouse", "numberAt", "([II)I"⟩, prog_1_method_60_code, 2, (Option.some Jvm.ClassFile.FieldType.int), [])
def mi_37 : MI := (⟨"Miterhouse", "order", "(II)I"⟩, prog_1_method_23_code, 4, (Option.some Jvm.ClassFile.FieldType.int), [])
def mi_38 : MI := (⟨"Miterhouse", "output", "(II)I"⟩, prog_1_method_6_code, 3, (Option.some Jvm.ClassFile.FieldType.int), [])
def mi_39 : MI := (⟨"Miterhouse", "patch", "(IIIII)I"⟩, prog_1_method_37_code, 9, (Option.some Jvm.ClassFile.FieldType.int), [])
def mi_40 : MI := (⟨"Miterhouse", "pattern", "(I)I"⟩, prog_1_method_13_code, 3, (Option.some Jvm.ClassFile.FieldType.int), [])
def mi_41 : MI := (⟨"Miterhouse", "patterns", "()I"⟩, prog_1_method_22_code, 1, (Option.some Jvm.ClassFile.FieldType.int), [])
def mi_42 : MI := (⟨"Miterhouse", "pin", "(IZ)I"⟩, prog_1_method_12_code, 4, (Option.some Jvm.ClassFile.FieldType.int), [])
def mi_43 : MI := (⟨"Miterhouse", "placeOf", "(I)I"⟩, prog_1_method_24_code, 3, (Option.some Jvm.ClassFile.FieldType.int), [])
def mi_44 : MI := (⟨"Miterhouse", "polynomial", "(III)I"⟩, prog_1_method_57_code, 8, (Option.some Jvm.ClassFile.FieldType.int), [])
def mi_45 : MI := (⟨"Miterhouse", "proof", "(IIZ)I"⟩, prog_1_method_17_code, 5, (Option.some Jvm.ClassFile.FieldType.int), [])
def mi_46 : MI := (⟨"Miterhouse", "prove", "(IIZI)C"⟩, prog_1_method_16_code, 6, (Option.some Jvm.ClassFile.FieldType.char), [])
def mi_47 : MI := (⟨"Miterhouse", "putNumber", "([III)V"⟩, prog_1_method_61_code, 3, (Option.none : Option Jvm.ClassFile.FieldType), [])
def mi_48 : MI := (⟨"Miterhouse", "reached", "()I"⟩, prog_1_method_40_code, 2, (Option.some Jvm.ClassFile.FieldType.int), [])
def mi_49 : MI := (⟨"Miterhouse", "run", "(III)I"⟩, prog_1_method_45_code, 4, (Option.some Jvm.ClassFile.FieldType.int), [])
def mi_50 : MI := (⟨"Miterhouse", "seen", "(I)I"⟩, prog_1_method_35_code, 2, (Option.some Jvm.ClassFile.FieldType.int), [])
def mi_51 : MI := (⟨"Miterhouse", "sift", "()I"⟩, prog_1_method_27_code, 1, (Option.some Jvm.ClassFile.FieldType.int), [])
def mi_52 : MI := (⟨"Miterhouse", "signature", "(I)J"⟩, prog_1_method_14_code, 2, (Option.some Jvm.ClassFile.FieldType.long), [])
def mi_53 : MI := (⟨"Miterhouse", "sweep", "(I)I"⟩, prog_1_method_19_code, 3, (Option.some Jvm.ClassFile.FieldType.int), [])
def mi_54 : MI := (⟨"Miterhouse", "table", "(III)I"⟩, prog_1_method_30_code, 6, (Option.some Jvm.ClassFile.FieldType.int), [])
def mi_55 : MI := (⟨"Miterhouse", "trace", "(I)I"⟩, prog_1_method_42_code, 3, (Option.some Jvm.ClassFile.FieldType.int), [])
def mi_56 : MI := (⟨"Miterhouse", "value", "(II)I"⟩, prog_1_method_9_code, 3, (Option.some Jvm.ClassFile.FieldType.int), [])
def mi_57 : MI := (⟨"Miterhouse", "witness", "(IIZ)I"⟩, prog_1_method_18_code, 5, (Option.some Jvm.ClassFile.FieldType.int), [])
def mi_58 : MI := (⟨"Miterhouse", "word", "(IIII)I"⟩, prog_1_method_34_code, 5, (Option.some Jvm.ClassFile.FieldType.int), [])
def mi_59 : MI := (⟨"Miterhouse$Cuts", "fullTable", "(I)I"⟩, prog_5_method_15_code, 1, (Option.some Jvm.ClassFile.FieldType.int), [])
def mi_60 : MI := (⟨"Miterhouse$Nets", "<init>", "()V"⟩, prog_8_method_1_code, 1, (Option.none : Option Jvm.ClassFile.FieldType), [])
def mi_61 : MI := (⟨"Miterhouse$Nets", "addCell", "(III)I"⟩, prog_8_method_22_code, 4, (Option.some Jvm.ClassFile.FieldType.int), [])
def mi_62 : MI := (⟨"Miterhouse$Nets", "addInput", "()I"⟩, prog_8_method_21_code, 1, (Option.some Jvm.ClassFile.FieldType.int), [])
def mi_63 : MI := (⟨"Miterhouse$Nets", "addLine", "(ICII)I"⟩, prog_8_method_24_code, 6, (Option.some Jvm.ClassFile.FieldType.int), [])
def mi_64 : MI := (⟨"Miterhouse$Nets", "canBeClosed", "()Z"⟩, prog_8_method_27_code, 2, (Option.some Jvm.ClassFile.FieldType.boolean), [])
def mi_65 : MI := (⟨"Miterhouse$Nets", "cellNamed", "(II)I"⟩, prog_8_method_19_code, 4, (Option.some Jvm.ClassFile.FieldType.int), [])
def mi_66 : MI := (⟨"Miterhouse$Nets", "cellsOf", "(I)I"⟩, prog_8_method_13_code, 2, (Option.some Jvm.ClassFile.FieldType.int), [])
def mi_67 : MI := (⟨"Miterhouse$Nets", "hasLine", "(I)Z"⟩, prog_8_method_2_code, 2, (Option.some Jvm.ClassFile.FieldType.boolean), [])
def mi_68 : MI := (⟨"Miterhouse$Nets", "outputsOf", "(I)I"⟩, prog_8_method_14_code, 2, (Option.some Jvm.ClassFile.FieldType.int), [])
def mi_69 : MI := (⟨"Miterhouse$Nets", "sourceCount", "()I"⟩, prog_8_method_16_code, 1, (Option.some Jvm.ClassFile.FieldType.int), [])
def mi_70 : MI := (⟨"MiterhouseLaw", "allDiagrams", "(LMiterhouse;[J)I"⟩, method_25_code, 3, (Option.some Jvm.ClassFile.FieldType.int), [(0, 8, 11, 13)])
def mi_71 : MI := (⟨"MiterhouseLaw", "ands", "(LMiterhouse;[J)I"⟩, method_12_code, 3, (Option.some Jvm.ClassFile.FieldType.int), [(0, 8, 11, 13)])
def mi_72 : MI := (⟨"MiterhouseLaw", "areSame", "(LMiterhouse;I[J)I"⟩, method_32_code, 4, (Option.some Jvm.ClassFile.FieldType.int), [(0, 16, 19, 21)])
def mi_73 : MI := (⟨"MiterhouseLaw", "candidates", "(LMiterhouse;I[J)I"⟩, method_16_code, 4, (Option.some Jvm.ClassFile.FieldType.int), [(0, 9, 12, 27), (0, 9, 15, 13)])
def mi_74 : MI := (⟨"MiterhouseLaw", "cell", "(LMiterhouse;III[J)I"⟩, method_4_code, 6, (Option.some Jvm.ClassFile.FieldType.int), [(0, 12, 15, 21), (0, 12, 19, 13), (0, 12, 23, 15)])
def mi_75 : MI := (⟨"MiterhouseLaw", "cellClasses", "(LMiterhouse;[J)I"⟩, method_38_code, 3, (Option.some Jvm.ClassFile.FieldType.int), [(0, 8, 11, 13)])
def mi_76 : MI := (⟨"MiterhouseLaw", "close", "(LMiterhouse;[J)I"⟩, method_8_code, 3, (Option.some Jvm.ClassFile.FieldType.int), [(0, 8, 11, 13)])
def mi_77 : MI := (⟨"MiterhouseLaw", "coefficient", "(LMiterhouse;IIII[J)I"⟩, method_31_code, 7, (Option.some Jvm.ClassFile.FieldType.int), [(0, 14, 17, 21)])
def mi_78 : MI := (⟨"MiterhouseLaw", "constrain", "(LMiterhouse;I[J)I"⟩, method_9_code, 4, (Option.some Jvm.ClassFile.FieldType.int), [(0, 9, 12, 27), (0, 9, 15, 13), (0, 9, 18, 15)])
def mi_79 : MI := (⟨"MiterhouseLaw", "correspond", "(LMiterhouse;IIZ[J)I"⟩, method_37_code, 6, (Option.some Jvm.ClassFile.FieldType.int), [(0, 19, 22, 27), (0, 19, 26, 13)])
def mi_80 : MI := (⟨"MiterhouseLaw", "cutAt", "(LMiterhouse;IIII[J)I"⟩, method_28_code, 7, (Option.some Jvm.ClassFile.FieldType.int), [(0, 14, 17, 27), (0, 14, 21, 21), (0, 14, 25, 13), (0, 14, 29, 56)])
def mi_81 : MI := (⟨"MiterhouseLaw", "cuts", "(LMiterhouse;II[J)I"⟩, method_27_code, 5, (Option.some Jvm.ClassFile.FieldType.int), [(0, 10, 13, 27), (0, 10, 17, 21), (0, 10, 21, 13)])
def mi_82 : MI := (⟨"MiterhouseLaw", "data", "(LMiterhouse;II[J)I"⟩, method_6_code, 5, (Option.some Jvm.ClassFile.FieldType.int), [(0, 10, 13, 27), (0, 10, 17, 13)])
def mi_83 : MI := (⟨"MiterhouseLaw", "diagram", "(LMiterhouse;II[J)I"⟩, method_24_code, 5, (Option.some Jvm.ClassFile.FieldType.int), [(0, 10, 13, 27), (0, 10, 17, 21), (0, 10, 21, 13)])
def mi_84 : MI := (⟨"MiterhouseLaw", "difference", "(LMiterhouse;[J)I"⟩, method_40_code, 3, (Option.some Jvm.ClassFile.FieldType.int), [(0, 8, 11, 13)])
def mi_85 : MI := (⟨"MiterhouseLaw", "gate", "(LMiterhouse;ICII[J)I"⟩, method_5_code, 7, (Option.some Jvm.ClassFile.FieldType.int), [(0, 14, 17, 21), (0, 14, 21, 27), (0, 14, 25, 13), (0, 14, 29, 15)])
def mi_86 : MI := (⟨"MiterhouseLaw", "input", "(LMiterhouse;[J)I"⟩, method_3_code, 3, (Option.some Jvm.ClassFile.FieldType.int), [(0, 8, 11, 13), (0, 8, 14, 15)])
def mi_87 : MI := (⟨"MiterhouseLaw", "isIdle", "(LMiterhouse;I[J)I"⟩, method_35_code, 4, (Option.some Jvm.ClassFile.FieldType.int), [(0, 16, 19, 27), (0, 16, 22, 13)])
def mi_88 : MI := (⟨"MiterhouseLaw", "isInductive", "(LMiterhouse;I[J)I"⟩, method_42_code, 4, (Option.some Jvm.ClassFile.FieldType.int), [(0, 16, 19, 21), (0, 16, 22, 13)])
def mi_89 : MI := (⟨"MiterhouseLaw", "isInvariant", "(LMiterhouse;I[J)I"⟩, method_43_code, 4, (Option.some Jvm.ClassFile.FieldType.int), [(0, 16, 19, 27), (0, 16, 22, 13)])
def mi_90 : MI := (⟨"MiterhouseLaw", "law", "([I)Z"⟩, code, 9, (Option.some Jvm.ClassFile.FieldType.boolean), [])
def mi_91 : MI := (⟨"MiterhouseLaw", "literal", "(LMiterhouse;I[J)I"⟩, method_11_code, 4, (Option.some Jvm.ClassFile.FieldType.int), [(0, 9, 12, 27), (0, 9, 15, 13)])
def mi_92 : MI := (⟨"MiterhouseLaw", "meanSeen", "(LMiterhouse;[D)I"⟩, method_46_code, 3, (Option.some Jvm.ClassFile.FieldType.int), [(0, 7, 10, 13), (0, 7, 13, 162)])
def mi_93 : MI := (⟨"MiterhouseLaw", "merged", "(LMiterhouse;I[J)I"⟩, method_21_code, 4, (Option.some Jvm.ClassFile.FieldType.int), [(0, 9, 12, 27)])
def mi_94 : MI := (⟨"MiterhouseLaw", "mergedShare", "(LMiterhouse;[D)I"⟩, method_45_code, 3, (Option.some Jvm.ClassFile.FieldType.int), [(0, 8, 11, 162)])
def mi_95 : MI := (⟨"MiterhouseLaw", "normal", "(LMiterhouse;II[J)I"⟩, method_30_code, 5, (Option.some Jvm.ClassFile.FieldType.int), [(0, 10, 13, 21)])
def mi_96 : MI := (⟨"MiterhouseLaw", "order", "(LMiterhouse;II[J)I"⟩, method_22_code, 5, (Option.some Jvm.ClassFile.FieldType.int), [(0, 10, 13, 13), (0, 10, 17, 21)])
def mi_97 : MI := (⟨"MiterhouseLaw", "output", "(LMiterhouse;II[J)I"⟩, method_7_code, 5, (Option.some Jvm.ClassFile.FieldType.int), [(0, 10, 13, 21), (0, 10, 17, 27), (0, 10, 21, 13), (0, 10, 25, 15)])
def mi_98 : MI := (⟨"MiterhouseLaw", "patch", "(LMiterhouse;IIIII[J)I"⟩, method_36_code, 8, (Option.some Jvm.ClassFile.FieldType.int), [(0, 16, 19, 27), (0, 16, 23, 21), (0, 16, 27, 13), (0, 16, 31, 56)])
def mi_99 : MI := (⟨"MiterhouseLaw", "pattern", "(LMiterhouse;I[J)I"⟩, method_14_code, 4, (Option.some Jvm.ClassFile.FieldType.int), [(0, 9, 12, 21), (0, 9, 15, 13), (0, 9, 18, 15)])
def mi_100 : MI := (⟨"MiterhouseLaw", "pin", "(LMiterhouse;IZ[J)I"⟩, method_13_code, 5, (Option.some Jvm.ClassFile.FieldType.int), [(0, 10, 13, 13), (0, 10, 17, 56)])
def mi_101 : MI := (⟨"MiterhouseLaw", "placeOf", "(LMiterhouse;I[J)I"⟩, method_23_code, 4, (Option.some Jvm.ClassFile.FieldType.int), [(0, 9, 12, 13), (0, 9, 15, 21)])
def mi_102 : MI := (⟨"MiterhouseLaw", "proof", "(LMiterhouse;IIZ[J)I"⟩, method_18_code, 6, (Option.some Jvm.ClassFile.FieldType.int), [(0, 12, 15, 27), (0, 12, 19, 13), (0, 12, 23, 56)])
def mi_103 : MI := (⟨"MiterhouseLaw", "prove", "(LMiterhouse;IIZI[J)I"⟩, method_17_code, 7, (Option.some Jvm.ClassFile.FieldType.int), [(0, 14, 17, 27), (0, 14, 21, 21), (0, 14, 25, 13)])
def mi_104 : MI := (⟨"MiterhouseLaw", "reached", "(LMiterhouse;[J)I"⟩, method_39_code, 3, (Option.some Jvm.ClassFile.FieldType.int), [(0, 8, 11, 13)])
def mi_105 : MI := (⟨"MiterhouseLaw", "run", "(LMiterhouse;III[J)I"⟩, method_44_code, 6, (Option.some Jvm.ClassFile.FieldType.int), [(0, 12, 15, 21), (0, 12, 19, 13)])
def mi_106 : MI := (⟨"MiterhouseLaw", "seen", "(LMiterhouse;I[J)I"⟩, method_34_code, 4, (Option.some Jvm.ClassFile.FieldType.int), [(0, 9, 12, 27), (0, 9, 15, 13)])
def mi_107 : MI := (⟨"MiterhouseLaw", "sift", "(LMiterhouse;[J)I"⟩, method_26_code, 3, (Option.some Jvm.ClassFile.FieldType.int), [(0, 8, 11, 13)])
def mi_108 : MI := (⟨"MiterhouseLaw", "signature", "(LMiterhouse;I[J)I"⟩, method_15_code, 4, (Option.some Jvm.ClassFile.FieldType.int), [(0, 8, 11, 27), (0, 8, 14, 13)])
def mi_109 : MI := (⟨"MiterhouseLaw", "sweep", "(LMiterhouse;I[J)I"⟩, method_20_code, 4, (Option.some Jvm.ClassFile.FieldType.int), [(0, 9, 12, 21), (0, 9, 15, 13)])
def mi_110 : MI := (⟨"MiterhouseLaw", "table", "(LMiterhouse;III[J)I"⟩, method_29_code, 6, (Option.some Jvm.ClassFile.FieldType.int), [(0, 12, 15, 27), (0, 12, 19, 21), (0, 12, 23, 13), (0, 12, 27, 56)])
def mi_111 : MI := (⟨"MiterhouseLaw", "trace", "(LMiterhouse;I[J)I"⟩, method_41_code, 4, (Option.some Jvm.ClassFile.FieldType.int), [(0, 9, 12, 13), (0, 9, 15, 56)])
def mi_112 : MI := (⟨"MiterhouseLaw", "value", "(LMiterhouse;II[J)I"⟩, method_10_code, 5, (Option.some Jvm.ClassFile.FieldType.int), [(0, 10, 13, 27), (0, 10, 17, 21), (0, 10, 21, 13)])
def mi_113 : MI := (⟨"MiterhouseLaw", "witness", "(LMiterhouse;IIZ[J)I"⟩, method_19_code, 6, (Option.some Jvm.ClassFile.FieldType.int), [(0, 12, 15, 27), (0, 12, 19, 13), (0, 12, 23, 56)])
def mi_114 : MI := (⟨"MiterhouseLaw", "word", "(LMiterhouse;IIII[J)I"⟩, method_33_code, 7, (Option.some Jvm.ClassFile.FieldType.int), [(0, 14, 17, 21)])
def mi_115 : MI := (⟨"MiterhouseModel", "<init>", "()V"⟩, prog_14_method_1_code, 1, (Option.none : Option Jvm.ClassFile.FieldType), [])
def mi_116 : MI := (⟨"MiterhouseModel", "add", "(LMiterhouseModel$Line;)LMiterhouseModel$Line;"⟩, prog_14_method_9_code, 2, (Option.some (Jvm.ClassFile.FieldType.object "MiterhouseModel$Line")), [])
def mi_117 : MI := (⟨"MiterhouseModel", "allDiagrams", "()I"⟩, prog_14_method_61_code, 1, (Option.some Jvm.ClassFile.FieldType.int), [])
def mi_118 : MI := (⟨"MiterhouseModel", "ands", "()I"⟩, prog_14_method_29_code, 1, (Option.some Jvm.ClassFile.FieldType.int), [])
def mi_119 : MI := (⟨"MiterhouseModel", "areNoLines", "(II)Z"⟩, prog_14_method_42_code, 3, (Option.some Jvm.ClassFile.FieldType.boolean), [])
def mi_120 : MI := (⟨"MiterhouseModel", "candidates", "(I)I"⟩, prog_14_method_36_code, 6, (Option.some Jvm.ClassFile.FieldType.int), [])
def mi_121 : MI := (⟨"MiterhouseModel", "cell", "(III)I"⟩, prog_14_method_14_code, 4, (Option.some Jvm.ClassFile.FieldType.int), [])
def mi_122 : MI := (⟨"MiterhouseModel", "cellClasses", "()I"⟩, prog_14_method_91_code, 4, (Option.some Jvm.ClassFile.FieldType.int), [])
def mi_123 : MI := (⟨"MiterhouseModel", "cellsOf", "(I)I"⟩, prog_14_method_13_code, 5, (Option.some Jvm.ClassFile.FieldType.int), [])
def mi_124 : MI := (⟨"MiterhouseModel", "close", "()I"⟩, prog_14_method_18_code, 8, (Option.some Jvm.ClassFile.FieldType.int), [])
def mi_125 : MI := (⟨"MiterhouseModel", "coefficient", "(IIII)I"⟩, prog_14_method_75_code, 6, (Option.some Jvm.ClassFile.FieldType.int), [])
def mi_126 : MI := (⟨"MiterhouseModel", "constrain", "(I)I"⟩, prog_14_method_21_code, 5, (Option.some Jvm.ClassFile.FieldType.int), [])
def mi_127 : MI := (⟨"MiterhouseModel", "correspond", "(IIZ)Z"⟩, prog_14_method_90_code, 4, (Option.some Jvm.ClassFile.FieldType.boolean), [])
def mi_128 : MI := (⟨"MiterhouseModel", "cutAt", "(IIII)I"⟩, prog_14_method_70_code, 7, (Option.some Jvm.ClassFile.FieldType.int), [])
def mi_129 : MI := (⟨"MiterhouseModel", "cuts", "(II)I"⟩, prog_14_method_69_code, 3, (Option.some Jvm.ClassFile.FieldType.int), [])
def mi_130 : MI := (⟨"MiterhouseModel", "data", "(II)I"⟩, prog_14_method_16_code, 5, (Option.some Jvm.ClassFile.FieldType.int), [])
def mi_131 : MI := (⟨"MiterhouseModel", "diagram", "(II)I"⟩, prog_14_method_60_code, 3, (Option.some Jvm.ClassFile.FieldType.int), [])
def mi_132 : MI := (⟨"MiterhouseModel", "difference", "()I"⟩, prog_14_method_99_code, 1, (Option.some Jvm.ClassFile.FieldType.int), [])
def mi_133 : MI := (⟨"MiterhouseModel", "gate", "(ICII)I"⟩, prog_14_method_15_code, 9, (Option.some Jvm.ClassFile.FieldType.int), [])
def mi_134 : MI := (⟨"MiterhouseModel", "input", "()I"⟩, prog_14_method_11_code, 1, (Option.some Jvm.ClassFile.FieldType.int), [])
def mi_135 : MI := (⟨"MiterhouseModel", "inputs", "()I"⟩, prog_14_method_10_code, 4, (Option.some Jvm.ClassFile.FieldType.int), [])
def mi_136 : MI := (⟨"MiterhouseModel", "isChoice", "(I)Z"⟩, prog_14_method_8_code, 5, (Option.some Jvm.ClassFile.FieldType.boolean), [])
def mi_137 : MI := (⟨"MiterhouseModel", "isIdle", "(I)Z"⟩, prog_14_method_83_code, 2, (Option.some Jvm.ClassFile.FieldType.boolean), [])
def mi_138 : MI := (⟨"MiterhouseModel", "isIn", "(III)Z"⟩, prog_14_method_3_code, 3, (Option.some Jvm.ClassFile.FieldType.boolean), [])
def mi_139 : MI := (⟨"MiterhouseModel", "isInductive", "(I)Z"⟩, prog_14_method_101_code, 7, (Option.some Jvm.ClassFile.FieldType.boolean), [])
def mi_140 : MI := (⟨"MiterhouseModel", "isInvariant", "(I)Z"⟩, prog_14_method_102_code, 6, (Option.some Jvm.ClassFile.FieldType.boolean), [])
def mi_141 : MI := (⟨"MiterhouseModel", "isLine", "(I)Z"⟩, prog_14_method_6_code, 2, (Option.some Jvm.ClassFile.FieldType.boolean), [])
def mi_142 : MI := (⟨"MiterhouseModel", "isNoLine", "(I)Z"⟩, prog_14_method_23_code, 2, (Option.some Jvm.ClassFile.FieldType.boolean), [])
def mi_143 : MI := (⟨"MiterhouseModel", "isNoNode", "(II)Z"⟩, prog_14_method_68_code, 3, (Option.some Jvm.ClassFile.FieldType.boolean), [])
def mi_144 : MI := (⟨"MiterhouseModel", "isSound", "()Z"⟩, prog_14_method_107_code, 1, (Option.some Jvm.ClassFile.FieldType.boolean), [])
def mi_145 : MI := (⟨"MiterhouseModel", "isThrown", "(ZI)Z"⟩, prog_14_method_4_code, 3, (Option.some Jvm.ClassFile.FieldType.boolean), [])
def mi_146 : MI := (⟨"MiterhouseModel", "lines", "()I"⟩, prog_14_method_104_code, 1, (Option.some Jvm.ClassFile.FieldType.int), [])
def mi_147 : MI := (⟨"MiterhouseModel", "literal", "(I)I"⟩, prog_14_method_28_code, 2, (Option.some Jvm.ClassFile.FieldType.int), [])
def mi_148 : MI := (⟨"MiterhouseModel", "meanSeen", "()D"⟩, prog_14_method_106_code, 5, (Option.some Jvm.ClassFile.FieldType.double), [])
def mi_149 : MI := (⟨"MiterhouseModel", "mergeProofs", "()J"⟩, prog_14_method_50_code, 5, (Option.some Jvm.ClassFile.FieldType.long), [])
def mi_150 : MI := (⟨"MiterhouseModel", "merged", "(I)I"⟩, prog_14_method_49_code, 3, (Option.some Jvm.ClassFile.FieldType.int), [])
def mi_151 : MI := (⟨"MiterhouseModel", "mergedShare", "()F"⟩, prog_14_method_105_code, 1, (Option.some Jvm.ClassFile.FieldType.float), [])
def mi_152 : MI := (⟨"MiterhouseModel", "named", "(II)LMiterhouseModel$Line;"⟩, prog_14_method_12_code, 6, (Option.some (Jvm.ClassFile.FieldType.object "MiterhouseModel$Line")), [])
def mi_153 : MI := (⟨"MiterhouseModel", "normal", "(II)I"⟩, prog_14_method_73_code, 4, (Option.some Jvm.ClassFile.FieldType.int), [])
def mi_154 : MI := (⟨"MiterhouseModel", "order", "(II)I"⟩, prog_14_method_58_code, 4, (Option.some Jvm.ClassFile.FieldType.int), [])
def mi_155 : MI := (⟨"MiterhouseModel", "output", "(II)I"⟩, prog_14_method_17_code, 3, (Option.some Jvm.ClassFile.FieldType.int), [])
def mi_156 : MI := (⟨"MiterhouseModel", "patch", "(IIIII)I"⟩, prog_14_method_86_code, 13, (Option.some Jvm.ClassFile.FieldType.int), [])
def mi_157 : MI := (⟨"MiterhouseModel", "pattern", "(I)I"⟩, prog_14_method_31_code, 2, (Option.some Jvm.ClassFile.FieldType.int), [])
def mi_158 : MI := (⟨"MiterhouseModel", "patterns", "()I"⟩, prog_14_method_51_code, 1, (Option.some Jvm.ClassFile.FieldType.int), [])
def mi_159 : MI := (⟨"MiterhouseModel", "pin", "(IZ)I"⟩, prog_14_method_30_code, 4, (Option.some Jvm.ClassFile.FieldType.int), [])
def mi_160 : MI := (⟨"MiterhouseModel", "placeOf", "(I)I"⟩, prog_14_method_59_code, 2, (Option.some Jvm.ClassFile.FieldType.int), [])
def mi_161 : MI := (⟨"MiterhouseModel", "proof", "(IIZ)I"⟩, prog_14_method_44_code, 5, (Option.some Jvm.ClassFile.FieldType.int), [])
def mi_162 : MI := (⟨"MiterhouseModel", "prove", "(IIZI)C"⟩, prog_14_method_43_code, 5, (Option.some Jvm.ClassFile.FieldType.char), [])
def mi_163 : MI := (⟨"MiterhouseModel", "reached", "()I"⟩, prog_14_method_98_code, 2, (Option.some Jvm.ClassFile.FieldType.int), [])
def mi_164 : MI := (⟨"MiterhouseModel", "run", "(III)I"⟩, prog_14_method_103_code, 8, (Option.some Jvm.ClassFile.FieldType.int), [])
def mi_165 : MI := (⟨"MiterhouseModel", "seen", "(I)I"⟩, prog_14_method_82_code, 2, (Option.some Jvm.ClassFile.FieldType.int), [])
def mi_166 : MI := (⟨"MiterhouseModel", "sift", "()I"⟩, prog_14_method_62_code, 7, (Option.some Jvm.ClassFile.FieldType.int), [])
def mi_167 : MI := (⟨"MiterhouseModel", "signature", "(I)J"⟩, prog_14_method_34_code, 2, (Option.some Jvm.ClassFile.FieldType.long), [])
def mi_168 : MI := (⟨"MiterhouseModel", "sweep", "(I)I"⟩, prog_14_method_47_code, 4, (Option.some Jvm.ClassFile.FieldType.int), [])
def mi_169 : MI := (⟨"MiterhouseModel", "table", "(III)I"⟩, prog_14_method_72_code, 7, (Option.some Jvm.ClassFile.FieldType.int), [])
def mi_170 : MI := (⟨"MiterhouseModel", "thrown", "()I"⟩, prog_14_method_2_code, 1, (Option.some Jvm.ClassFile.FieldType.int), [])
def mi_171 : MI := (⟨"MiterhouseModel", "trace", "(I)I"⟩, prog_14_method_100_code, 6, (Option.some Jvm.ClassFile.FieldType.int), [])
def mi_172 : MI := (⟨"MiterhouseModel", "value", "(II)I"⟩, prog_14_method_24_code, 3, (Option.some Jvm.ClassFile.FieldType.int), [])
def mi_173 : MI := (⟨"MiterhouseModel", "witness", "(IIZ)I"⟩, prog_14_method_45_code, 5, (Option.some Jvm.ClassFile.FieldType.int), [])
def mi_174 : MI := (⟨"MiterhouseModel", "word", "(IIII)I"⟩, prog_14_method_78_code, 5, (Option.some Jvm.ClassFile.FieldType.int), [])
def mi_175 : MI := (⟨"MiterhouseModel", "wordOf", "(IIII)I"⟩, prog_14_method_76_code, 10, (Option.some Jvm.ClassFile.FieldType.int), [])
def mi_176 : MI := (⟨"MiterhouseModel$Line", "<init>", "(IICLMiterhouseModel$Line;LMiterhouseModel$Line;II)V"⟩, prog_15_method_1_code, 8, (Option.none : Option Jvm.ClassFile.FieldType), [])
def mi_177 : MI := (⟨"java/lang/Math", "max", "(II)I"⟩, prog_31_method_65_code, 2, (Option.some Jvm.ClassFile.FieldType.int), [])
def mi_178 : MI := (⟨"java/util/AbstractCollection", "<init>", "()V"⟩, prog_43_method_1_code, 1, (Option.none : Option Jvm.ClassFile.FieldType), [])
def mi_179 : MI := (⟨"java/util/AbstractList", "<init>", "()V"⟩, prog_44_method_1_code, 1, (Option.none : Option Jvm.ClassFile.FieldType), [])
def mi_180 : MI := (⟨"java/util/ArrayList", "<init>", "()V"⟩, prog_45_method_2_code, 1, (Option.none : Option Jvm.ClassFile.FieldType), [])
def mi_181 : MI := (⟨"java/util/ArrayList", "add", "(Ljava/lang/Object;)Z"⟩, prog_45_method_25_code, 2, (Option.some Jvm.ClassFile.FieldType.boolean), [])
def mi_182 : MI := (⟨"java/util/ArrayList", "add", "(Ljava/lang/Object;[Ljava/lang/Object;I)V"⟩, prog_45_method_24_code, 4, (Option.none : Option Jvm.ClassFile.FieldType), [])
def mi_183 : MI := (⟨"java/util/ArrayList", "elementData", "(I)Ljava/lang/Object;"⟩, prog_45_method_18_code, 2, (Option.some (Jvm.ClassFile.FieldType.object "java/lang/Object")), [])
def mi_184 : MI := (⟨"java/util/ArrayList", "get", "(I)Ljava/lang/Object;"⟩, prog_45_method_20_code, 2, (Option.some (Jvm.ClassFile.FieldType.object "java/lang/Object")), [])
def mi_185 : MI := (⟨"java/util/ArrayList", "grow", "()[Ljava/lang/Object;"⟩, prog_45_method_7_code, 1, (Option.some (Jvm.ClassFile.FieldType.array (Jvm.ClassFile.FieldType.object "java/lang/Object"))), [])
def mi_186 : MI := (⟨"java/util/ArrayList", "grow", "(I)[Ljava/lang/Object;"⟩, prog_45_method_6_code, 4, (Option.some (Jvm.ClassFile.FieldType.array (Jvm.ClassFile.FieldType.object "java/lang/Object"))), [])
def mi_187 : MI := (⟨"java/util/ArrayList", "isEmpty", "()Z"⟩, prog_45_method_9_code, 1, (Option.some Jvm.ClassFile.FieldType.boolean), [])
def mi_188 : MI := (⟨"java/util/ArrayList", "iterator", "()Ljava/util/Iterator;"⟩, prog_45_method_55_code, 1, (Option.some (Jvm.ClassFile.FieldType.object "java/util/Iterator")), [])
def mi_189 : MI := (⟨"java/util/ArrayList", "size", "()I"⟩, prog_45_method_8_code, 1, (Option.some Jvm.ClassFile.FieldType.int), [])
def mi_190 : MI := (⟨"java/util/ArrayList$Itr", "<init>", "(Ljava/util/ArrayList;)V"⟩, prog_46_method_1_code, 2, (Option.none : Option Jvm.ClassFile.FieldType), [])
def mi_191 : MI := (⟨"java/util/ArrayList$Itr", "hasNext", "()Z"⟩, prog_46_method_2_code, 1, (Option.some Jvm.ClassFile.FieldType.boolean), [])
def mi_192 : MI := (⟨"java/util/Objects", "checkIndex", "(II)I"⟩, prog_52_method_17_code, 2, (Option.some Jvm.ClassFile.FieldType.int), [])
def mi_193 : MI := (⟨"jdk/internal/util/Preconditions", "checkIndex", "(IILjava/util/function/BiFunction;)I"⟩, prog_56_method_11_code, 3, (Option.some Jvm.ClassFile.FieldType.int), [])
def mi_194 : MI := (⟨"MiterhouseModel", "areSame", "(I)Z"⟩, prog_14_method_77_code, 5, (Option.some Jvm.ClassFile.FieldType.boolean), [])
def mi_195 : MI := (⟨"MiterhouseModel", "normal", "(IIIII)I"⟩, prog_14_method_74_code, 11, (Option.some Jvm.ClassFile.FieldType.int), [])
def mi_196 : MI := (⟨"Miterhouse$Cuts", "leastAlike", "(II)I"⟩, prog_5_method_16_code, 7, (Option.some Jvm.ClassFile.FieldType.int), [])
noncomputable def misllllll : Nat → MI := fun n => cond (Nat.beq n 0) (mi_0) (cond (Nat.beq n 1) (mi_1) (mi_2))
noncomputable def mislllllr : Nat → MI := fun n => cond (Nat.beq n 3) (mi_3) (cond (Nat.beq n 4) (mi_4) (mi_5))
noncomputable def mislllll : Nat → MI := fun n => cond (Nat.blt n 3) (misllllll n) (mislllllr n)
noncomputable def misllllrl : Nat → MI := fun n => cond (Nat.beq n 6) (mi_6) (cond (Nat.beq n 7) (mi_7) (mi_8))
noncomputable def misllllrr : Nat → MI := fun n => cond (Nat.beq n 9) (mi_9) (cond (Nat.beq n 10) (mi_10) (mi_11))
noncomputable def misllllr : Nat → MI := fun n => cond (Nat.blt n 9) (misllllrl n) (misllllrr n)
noncomputable def misllll : Nat → MI := fun n => cond (Nat.blt n 6) (mislllll n) (misllllr n)
noncomputable def mislllrll : Nat → MI := fun n => cond (Nat.beq n 12) (mi_12) (cond (Nat.beq n 13) (mi_13) (mi_14))
noncomputable def mislllrlr : Nat → MI := fun n => cond (Nat.beq n 15) (mi_15) (cond (Nat.beq n 16) (mi_16) (mi_17))
noncomputable def mislllrl : Nat → MI := fun n => cond (Nat.blt n 15) (mislllrll n) (mislllrlr n)
noncomputable def mislllrrl : Nat → MI := fun n => cond (Nat.beq n 18) (mi_18) (cond (Nat.beq n 19) (mi_19) (mi_20))
noncomputable def mislllrrr : Nat → MI := fun n => cond (Nat.beq n 21) (mi_21) (cond (Nat.beq n 22) (mi_22) (mi_23))
noncomputable def mislllrr : Nat → MI := fun n => cond (Nat.blt n 21) (mislllrrl n) (mislllrrr n)
noncomputable def mislllr : Nat → MI := fun n => cond (Nat.blt n 18) (mislllrl n) (mislllrr n)
noncomputable def mislll : Nat → MI := fun n => cond (Nat.blt n 12) (misllll n) (mislllr n)
noncomputable def misllrlll : Nat → MI := fun n => cond (Nat.beq n 24) (mi_24) (cond (Nat.beq n 25) (mi_25) (mi_26))
noncomputable def misllrllr : Nat → MI := fun n => cond (Nat.beq n 27) (mi_27) (cond (Nat.beq n 28) (mi_28) (mi_29))
noncomputable def misllrll : Nat → MI := fun n => cond (Nat.blt n 27) (misllrlll n) (misllrllr n)
noncomputable def misllrlrl : Nat → MI := fun n => cond (Nat.beq n 30) (mi_30) (cond (Nat.beq n 31) (mi_31) (mi_32))
noncomputable def misllrlrr : Nat → MI := fun n => cond (Nat.beq n 33) (mi_33) (cond (Nat.beq n 34) (mi_34) (mi_35))
noncomputable def misllrlr : Nat → MI := fun n => cond (Nat.blt n 33) (misllrlrl n) (misllrlrr n)
noncomputable def misllrl : Nat → MI := fun n => cond (Nat.blt n 30) (misllrll n) (misllrlr n)
noncomputable def misllrrll : Nat → MI := fun n => cond (Nat.beq n 36) (mi_36) (cond (Nat.beq n 37) (mi_37) (mi_38))
noncomputable def misllrrlr : Nat → MI := fun n => cond (Nat.beq n 39) (mi_39) (cond (Nat.beq n 40) (mi_40) (mi_41))
noncomputable def misllrrl : Nat → MI := fun n => cond (Nat.blt n 39) (misllrrll n) (misllrrlr n)
noncomputable def misllrrrl : Nat → MI := fun n => cond (Nat.beq n 42) (mi_42) (cond (Nat.beq n 43) (mi_43) (mi_44))
noncomputable def misllrrrr : Nat → MI := fun n => cond (Nat.beq n 45) (mi_45) (cond (Nat.beq n 46) (mi_46) (cond (Nat.beq n 47) (mi_47) (mi_48)))
noncomputable def misllrrr : Nat → MI := fun n => cond (Nat.blt n 45) (misllrrrl n) (misllrrrr n)
noncomputable def misllrr : Nat → MI := fun n => cond (Nat.blt n 42) (misllrrl n) (misllrrr n)
noncomputable def misllr : Nat → MI := fun n => cond (Nat.blt n 36) (misllrl n) (misllrr n)
noncomputable def misll : Nat → MI := fun n => cond (Nat.blt n 24) (mislll n) (misllr n)
noncomputable def mislrllll : Nat → MI := fun n => cond (Nat.beq n 49) (mi_49) (cond (Nat.beq n 50) (mi_50) (mi_51))
noncomputable def mislrlllr : Nat → MI := fun n => cond (Nat.beq n 52) (mi_52) (cond (Nat.beq n 53) (mi_53) (mi_54))
noncomputable def mislrlll : Nat → MI := fun n => cond (Nat.blt n 52) (mislrllll n) (mislrlllr n)
noncomputable def mislrllrl : Nat → MI := fun n => cond (Nat.beq n 55) (mi_55) (cond (Nat.beq n 56) (mi_56) (mi_57))
noncomputable def mislrllrr : Nat → MI := fun n => cond (Nat.beq n 58) (mi_58) (cond (Nat.beq n 59) (mi_59) (mi_60))
noncomputable def mislrllr : Nat → MI := fun n => cond (Nat.blt n 58) (mislrllrl n) (mislrllrr n)
noncomputable def mislrll : Nat → MI := fun n => cond (Nat.blt n 55) (mislrlll n) (mislrllr n)
noncomputable def mislrlrll : Nat → MI := fun n => cond (Nat.beq n 61) (mi_61) (cond (Nat.beq n 62) (mi_62) (mi_63))
noncomputable def mislrlrlr : Nat → MI := fun n => cond (Nat.beq n 64) (mi_64) (cond (Nat.beq n 65) (mi_65) (mi_66))
noncomputable def mislrlrl : Nat → MI := fun n => cond (Nat.blt n 64) (mislrlrll n) (mislrlrlr n)
noncomputable def mislrlrrl : Nat → MI := fun n => cond (Nat.beq n 67) (mi_67) (cond (Nat.beq n 68) (mi_68) (mi_69))
noncomputable def mislrlrrr : Nat → MI := fun n => cond (Nat.beq n 70) (mi_70) (cond (Nat.beq n 71) (mi_71) (mi_72))
noncomputable def mislrlrr : Nat → MI := fun n => cond (Nat.blt n 70) (mislrlrrl n) (mislrlrrr n)
noncomputable def mislrlr : Nat → MI := fun n => cond (Nat.blt n 67) (mislrlrl n) (mislrlrr n)
noncomputable def mislrl : Nat → MI := fun n => cond (Nat.blt n 61) (mislrll n) (mislrlr n)
noncomputable def mislrrlll : Nat → MI := fun n => cond (Nat.beq n 73) (mi_73) (cond (Nat.beq n 74) (mi_74) (mi_75))
noncomputable def mislrrllr : Nat → MI := fun n => cond (Nat.beq n 76) (mi_76) (cond (Nat.beq n 77) (mi_77) (mi_78))
noncomputable def mislrrll : Nat → MI := fun n => cond (Nat.blt n 76) (mislrrlll n) (mislrrllr n)
noncomputable def mislrrlrl : Nat → MI := fun n => cond (Nat.beq n 79) (mi_79) (cond (Nat.beq n 80) (mi_80) (mi_81))
noncomputable def mislrrlrr : Nat → MI := fun n => cond (Nat.beq n 82) (mi_82) (cond (Nat.beq n 83) (mi_83) (mi_84))
noncomputable def mislrrlr : Nat → MI := fun n => cond (Nat.blt n 82) (mislrrlrl n) (mislrrlrr n)
noncomputable def mislrrl : Nat → MI := fun n => cond (Nat.blt n 79) (mislrrll n) (mislrrlr n)
noncomputable def mislrrrll : Nat → MI := fun n => cond (Nat.beq n 85) (mi_85) (cond (Nat.beq n 86) (mi_86) (mi_87))
noncomputable def mislrrrlr : Nat → MI := fun n => cond (Nat.beq n 88) (mi_88) (cond (Nat.beq n 89) (mi_89) (mi_90))
noncomputable def mislrrrl : Nat → MI := fun n => cond (Nat.blt n 88) (mislrrrll n) (mislrrrlr n)
noncomputable def mislrrrrl : Nat → MI := fun n => cond (Nat.beq n 91) (mi_91) (cond (Nat.beq n 92) (mi_92) (mi_93))
noncomputable def mislrrrrr : Nat → MI := fun n => cond (Nat.beq n 94) (mi_94) (cond (Nat.beq n 95) (mi_95) (cond (Nat.beq n 96) (mi_96) (mi_97)))
noncomputable def mislrrrr : Nat → MI := fun n => cond (Nat.blt n 94) (mislrrrrl n) (mislrrrrr n)
noncomputable def mislrrr : Nat → MI := fun n => cond (Nat.blt n 91) (mislrrrl n) (mislrrrr n)
noncomputable def mislrr : Nat → MI := fun n => cond (Nat.blt n 85) (mislrrl n) (mislrrr n)
noncomputable def mislr : Nat → MI := fun n => cond (Nat.blt n 73) (mislrl n) (mislrr n)
noncomputable def misl : Nat → MI := fun n => cond (Nat.blt n 49) (misll n) (mislr n)
noncomputable def misrlllll : Nat → MI := fun n => cond (Nat.beq n 98) (mi_98) (cond (Nat.beq n 99) (mi_99) (mi_100))
noncomputable def misrllllr : Nat → MI := fun n => cond (Nat.beq n 101) (mi_101) (cond (Nat.beq n 102) (mi_102) (mi_103))
noncomputable def misrllll : Nat → MI := fun n => cond (Nat.blt n 101) (misrlllll n) (misrllllr n)
noncomputable def misrlllrl : Nat → MI := fun n => cond (Nat.beq n 104) (mi_104) (cond (Nat.beq n 105) (mi_105) (mi_106))
noncomputable def misrlllrr : Nat → MI := fun n => cond (Nat.beq n 107) (mi_107) (cond (Nat.beq n 108) (mi_108) (mi_109))
noncomputable def misrlllr : Nat → MI := fun n => cond (Nat.blt n 107) (misrlllrl n) (misrlllrr n)
noncomputable def misrlll : Nat → MI := fun n => cond (Nat.blt n 104) (misrllll n) (misrlllr n)
noncomputable def misrllrll : Nat → MI := fun n => cond (Nat.beq n 110) (mi_110) (cond (Nat.beq n 111) (mi_111) (mi_112))
noncomputable def misrllrlr : Nat → MI := fun n => cond (Nat.beq n 113) (mi_113) (cond (Nat.beq n 114) (mi_114) (mi_115))
noncomputable def misrllrl : Nat → MI := fun n => cond (Nat.blt n 113) (misrllrll n) (misrllrlr n)
noncomputable def misrllrrl : Nat → MI := fun n => cond (Nat.beq n 116) (mi_116) (cond (Nat.beq n 117) (mi_117) (mi_118))
noncomputable def misrllrrr : Nat → MI := fun n => cond (Nat.beq n 119) (mi_119) (cond (Nat.beq n 120) (mi_120) (mi_121))
noncomputable def misrllrr : Nat → MI := fun n => cond (Nat.blt n 119) (misrllrrl n) (misrllrrr n)
noncomputable def misrllr : Nat → MI := fun n => cond (Nat.blt n 116) (misrllrl n) (misrllrr n)
noncomputable def misrll : Nat → MI := fun n => cond (Nat.blt n 110) (misrlll n) (misrllr n)
noncomputable def misrlrlll : Nat → MI := fun n => cond (Nat.beq n 122) (mi_122) (cond (Nat.beq n 123) (mi_123) (mi_124))
noncomputable def misrlrllr : Nat → MI := fun n => cond (Nat.beq n 125) (mi_125) (cond (Nat.beq n 126) (mi_126) (mi_127))
noncomputable def misrlrll : Nat → MI := fun n => cond (Nat.blt n 125) (misrlrlll n) (misrlrllr n)
noncomputable def misrlrlrl : Nat → MI := fun n => cond (Nat.beq n 128) (mi_128) (cond (Nat.beq n 129) (mi_129) (mi_130))
noncomputable def misrlrlrr : Nat → MI := fun n => cond (Nat.beq n 131) (mi_131) (cond (Nat.beq n 132) (mi_132) (mi_133))
noncomputable def misrlrlr : Nat → MI := fun n => cond (Nat.blt n 131) (misrlrlrl n) (misrlrlrr n)
noncomputable def misrlrl : Nat → MI := fun n => cond (Nat.blt n 128) (misrlrll n) (misrlrlr n)
noncomputable def misrlrrll : Nat → MI := fun n => cond (Nat.beq n 134) (mi_134) (cond (Nat.beq n 135) (mi_135) (mi_136))
noncomputable def misrlrrlr : Nat → MI := fun n => cond (Nat.beq n 137) (mi_137) (cond (Nat.beq n 138) (mi_138) (mi_139))
noncomputable def misrlrrl : Nat → MI := fun n => cond (Nat.blt n 137) (misrlrrll n) (misrlrrlr n)
noncomputable def misrlrrrl : Nat → MI := fun n => cond (Nat.beq n 140) (mi_140) (cond (Nat.beq n 141) (mi_141) (mi_142))
noncomputable def misrlrrrr : Nat → MI := fun n => cond (Nat.beq n 143) (mi_143) (cond (Nat.beq n 144) (mi_144) (cond (Nat.beq n 145) (mi_145) (mi_146)))
noncomputable def misrlrrr : Nat → MI := fun n => cond (Nat.blt n 143) (misrlrrrl n) (misrlrrrr n)
noncomputable def misrlrr : Nat → MI := fun n => cond (Nat.blt n 140) (misrlrrl n) (misrlrrr n)
noncomputable def misrlr : Nat → MI := fun n => cond (Nat.blt n 134) (misrlrl n) (misrlrr n)
noncomputable def misrl : Nat → MI := fun n => cond (Nat.blt n 122) (misrll n) (misrlr n)
noncomputable def misrrllll : Nat → MI := fun n => cond (Nat.beq n 147) (mi_147) (cond (Nat.beq n 148) (mi_148) (mi_149))
noncomputable def misrrlllr : Nat → MI := fun n => cond (Nat.beq n 150) (mi_150) (cond (Nat.beq n 151) (mi_151) (mi_152))
noncomputable def misrrlll : Nat → MI := fun n => cond (Nat.blt n 150) (misrrllll n) (misrrlllr n)
noncomputable def misrrllrl : Nat → MI := fun n => cond (Nat.beq n 153) (mi_153) (cond (Nat.beq n 154) (mi_154) (mi_155))
noncomputable def misrrllrr : Nat → MI := fun n => cond (Nat.beq n 156) (mi_156) (cond (Nat.beq n 157) (mi_157) (mi_158))
noncomputable def misrrllr : Nat → MI := fun n => cond (Nat.blt n 156) (misrrllrl n) (misrrllrr n)
noncomputable def misrrll : Nat → MI := fun n => cond (Nat.blt n 153) (misrrlll n) (misrrllr n)
noncomputable def misrrlrll : Nat → MI := fun n => cond (Nat.beq n 159) (mi_159) (cond (Nat.beq n 160) (mi_160) (mi_161))
noncomputable def misrrlrlr : Nat → MI := fun n => cond (Nat.beq n 162) (mi_162) (cond (Nat.beq n 163) (mi_163) (mi_164))
noncomputable def misrrlrl : Nat → MI := fun n => cond (Nat.blt n 162) (misrrlrll n) (misrrlrlr n)
noncomputable def misrrlrrl : Nat → MI := fun n => cond (Nat.beq n 165) (mi_165) (cond (Nat.beq n 166) (mi_166) (mi_167))
noncomputable def misrrlrrr : Nat → MI := fun n => cond (Nat.beq n 168) (mi_168) (cond (Nat.beq n 169) (mi_169) (cond (Nat.beq n 170) (mi_170) (mi_171)))
noncomputable def misrrlrr : Nat → MI := fun n => cond (Nat.blt n 168) (misrrlrrl n) (misrrlrrr n)
noncomputable def misrrlr : Nat → MI := fun n => cond (Nat.blt n 165) (misrrlrl n) (misrrlrr n)
noncomputable def misrrl : Nat → MI := fun n => cond (Nat.blt n 159) (misrrll n) (misrrlr n)
noncomputable def misrrrlll : Nat → MI := fun n => cond (Nat.beq n 172) (mi_172) (cond (Nat.beq n 173) (mi_173) (mi_174))
noncomputable def misrrrllr : Nat → MI := fun n => cond (Nat.beq n 175) (mi_175) (cond (Nat.beq n 176) (mi_176) (mi_177))
noncomputable def misrrrll : Nat → MI := fun n => cond (Nat.blt n 175) (misrrrlll n) (misrrrllr n)
noncomputable def misrrrlrl : Nat → MI := fun n => cond (Nat.beq n 178) (mi_178) (cond (Nat.beq n 179) (mi_179) (mi_180))
noncomputable def misrrrlrr : Nat → MI := fun n => cond (Nat.beq n 181) (mi_181) (cond (Nat.beq n 182) (mi_182) (mi_183))
noncomputable def misrrrlr : Nat → MI := fun n => cond (Nat.blt n 181) (misrrrlrl n) (misrrrlrr n)
noncomputable def misrrrl : Nat → MI := fun n => cond (Nat.blt n 178) (misrrrll n) (misrrrlr n)
noncomputable def misrrrrll : Nat → MI := fun n => cond (Nat.beq n 184) (mi_184) (cond (Nat.beq n 185) (mi_185) (mi_186))
noncomputable def misrrrrlr : Nat → MI := fun n => cond (Nat.beq n 187) (mi_187) (cond (Nat.beq n 188) (mi_188) (mi_189))
noncomputable def misrrrrl : Nat → MI := fun n => cond (Nat.blt n 187) (misrrrrll n) (misrrrrlr n)
noncomputable def misrrrrrl : Nat → MI := fun n => cond (Nat.beq n 190) (mi_190) (cond (Nat.beq n 191) (mi_191) (mi_192))
noncomputable def misrrrrrr : Nat → MI := fun n => cond (Nat.beq n 193) (mi_193) (cond (Nat.beq n 194) (mi_194) (cond (Nat.beq n 195) (mi_195) (mi_196)))
noncomputable def misrrrrr : Nat → MI := fun n => cond (Nat.blt n 193) (misrrrrrl n) (misrrrrrr n)
noncomputable def misrrrr : Nat → MI := fun n => cond (Nat.blt n 190) (misrrrrl n) (misrrrrr n)
noncomputable def misrrr : Nat → MI := fun n => cond (Nat.blt n 184) (misrrrl n) (misrrrr n)
noncomputable def misrr : Nat → MI := fun n => cond (Nat.blt n 172) (misrrl n) (misrrr n)
noncomputable def misr : Nat → MI := fun n => cond (Nat.blt n 147) (misrl n) (misrr n)
noncomputable def mis : Nat → MI := fun n => cond (Nat.blt n 98) (misl n) (misr n)
def en : Nat → String := fun n => cond (Nat.blt n 2) (cond (Nat.blt n 1) ("java/lang/UnsupportedOperationException") ("java/lang/IndexOutOfBoundsException")) (cond (Nat.blt n 3) ("java/lang/IllegalArgumentException") ("java/lang/ArithmeticException"))
def mulN (h : Nat) : List sE := [.inr (.array (.array .int), 2, 3, [(1, .inl (.ref (h + 6))), (0, .inl (.ref (h + 1)))]),
  .inr (.array .int, 4, 3, [(3, .inl (.ref (h + 5))), (2, .inl (.ref (h + 4))), (1, .inl (.ref (h + 3))), (0, .inl (.ref (h + 2)))]),
  .inr (.int, 4, 0, []), .inr (.int, 4, 0, []), .inr (.int, 4, 0, []), .inr (.int, 4, 0, []),
  .inr (.array .int, 4, 3, [(3, .inl (.ref (h + 10))), (2, .inl (.ref (h + 9))), (1, .inl (.ref (h + 8))), (0, .inl (.ref (h + 7)))]),
  .inr (.int, 4, 0, []), .inr (.int, 4, 0, []), .inr (.int, 4, 0, []), .inr (.int, 4, 0, [])]
def slen (k : Nat) : Option sV := match k with | 1 => some (.inr (false, 8)) | 3 => some (.inl (.int 0)) | _ => none
def sdv (op : Nat) (a b : sV) : Option Nat := match op, a, b with
  | 3, .inr (false, 0), .inl (.int x) => cond (decide (x = 63)) (some 7) none
  | 9, .inr (false, 2), _ => some 6
  | 1, .inr (false, 1), .inl (.int x) => cond (decide (x = 1)) (some 11) none
  | 6, .inl (.int x), .inr (false, 1) => cond (decide (x = 1)) (some 12) none
  | 1, .inr (false, 12), .inl (.int x) => cond (decide (x = 1)) (some 13) none
  | 6, .inl (.int x), .inr (false, 2) => cond (decide (x = 1)) (some 14) none
  | 1, .inr (false, 14), .inl (.int x) => cond (decide (x = 1)) (some 15) none
  | _, _, _ => none
def hdN : Nat → Option (Option Nat) := fun _ => some none
def hdT (a b c d : Option Nat) : Nat → Option (Option Nat) := fun e => match e with | 0 => some a | 1 => some b | 2 => some c | 3 => some d | _ => none
/-- the table with so many inputs, in bounds -/
def sfulT (G : sG) : Bool := match G[1]?, G[2]? with
  | some (k, k1, _), some (t0, t1, _) => decide (k = k1) && decide (1 ≤ k) && decide (k ≤ 4) && decide (0 ≤ t0) && decide (t1 ≤ 2 ^ (2 ^ k.toNat) - 1)
  | _, _ => false
def hk_196 : RunK := fun _ _ G a M => match a with
  | [.inr (false, 1), .inr (false, 2)] => cond (sfulT G) (some ([(G, .inl (some (.inr (false, 9))), M)], 0, 0)) none
  | _ => none
def hk_195 : RunK := fun _ _ G a M => match a with
  | [.inr (false, 1), .inr (false, 2), .inl (.int x), .inl (.int y1), .inl (.int z)] => cond (sfulT G && decide (x = 0) && decide (y1 = 0) && decide (z = 0)) (some ([(G, .inl (some (.inr (false, 9))), M)], 0, 0)) none
  | _ => none
def hk_194 : RunK := fun _ _ _ _ _ => none
noncomputable def rw_0ll : Nat → Option Op := fun n => cond (Nat.beq n 0) (some (oLoad 0 1 0 4)) (cond (Nat.beq n 1) (some (oObj 0 4)) (cond (Nat.beq n 4) (some (oLoad 0 5 0 4)) (none)))
noncomputable def rw_0lr : Nat → Option Op := fun n => cond (Nat.beq n 5) (some (oNew 0 8 1 13 [.null, .null, .null, .null, .null, .null, .null, .null, .null, .null, .null, .int 0, .int 0])) (cond (Nat.beq n 8) (some (oDup 0 9)) (cond (Nat.beq n 9) (some (oCall (runC 60) 0 12 3 1 0 1 hdN)) (cond (Nat.beq n 12) (some (oPut 0 15 0 0 (.object "Miterhouse$Nets"))) (none))))
noncomputable def rw_0l : Nat → Option Op := fun n => cond (Nat.blt n 5) (rw_0ll n) (rw_0lr n)
noncomputable def rw_0rl : Nat → Option Op := fun n => cond (Nat.beq n 15) (some (oLoad 0 16 0 4)) (cond (Nat.beq n 16) (some (oPush 0 18 (.int (Int32.ofInt (32))))) (cond (Nat.beq n 18) (some (oNewarr 0 20 .int 0)) (cond (Nat.beq n 20) (some (oPut 0 23 0 1 (.array .int))) (none))))
noncomputable def rw_0rr : Nat → Option Op := fun n => cond (Nat.beq n 23) (some (oLoad 0 24 0 4)) (cond (Nat.beq n 24) (some (oPush 0 25 (.null))) (cond (Nat.beq n 25) (some (oPut 0 28 0 2 (.object "Miterhouse$Closed"))) (cond (Nat.beq n 28) (some (oRet0)) (none))))
noncomputable def rw_0r : Nat → Option Op := fun n => cond (Nat.blt n 23) (rw_0rl n) (rw_0rr n)
noncomputable def rw_0 : Nat → Option Op := fun n => cond (Nat.blt n 15) (rw_0l n) (rw_0r n)
noncomputable def rw_1 : Nat → Option Op := fun n => cond (Nat.beq n 0) (some (oLoad 1 1 0 4)) (cond (Nat.beq n 1) (some (oCall (runC 30) 1 4 2 1 0 1 hdN)) (none))
noncomputable def rw_2 : Nat → Option Op := fun n => cond (Nat.beq n 0) (some (oLoad 2 1 0 4)) (cond (Nat.beq n 1) (some (oCall (runC 30) 2 4 2 1 0 1 hdN)) (none))
noncomputable def rw_3llll : Nat → Option Op := fun n => cond (Nat.beq n 0) (some (oLoad 3 1 1 0)) (cond (Nat.beq n 1) (some (oPush 3 2 (.int (Int32.ofInt (1))))) (none))
noncomputable def rw_3lllr : Nat → Option Op := fun n => cond (Nat.beq n 2) (some (oPush 3 4 (.int (Int32.ofInt (6))))) (cond (Nat.beq n 4) (some (oCall (runC 33) 3 7 1 3 0 3 hdN)) (cond (Nat.beq n 7) (some (oPush 3 8 (.int (Int32.ofInt (1))))) (none)))
noncomputable def rw_3lll : Nat → Option Op := fun n => cond (Nat.blt n 2) (rw_3llll n) (rw_3lllr n)
noncomputable def rw_3llrl : Nat → Option Op := fun n => cond (Nat.beq n 8) (some (oLoad 3 9 1 0)) (cond (Nat.beq n 9) (some (oBin sdv 3 10 6)) (none))
noncomputable def rw_3llrr : Nat → Option Op := fun n => cond (Nat.beq n 10) (some (oPush 3 11 (.int (Int32.ofInt (1))))) (cond (Nat.beq n 11) (some (oBin sdv 3 12 1)) (cond (Nat.beq n 12) (some (oStore 3 13 2 0)) (none)))
noncomputable def rw_3llr : Nat → Option Op := fun n => cond (Nat.blt n 10) (rw_3llrl n) (rw_3llrr n)
noncomputable def rw_3ll : Nat → Option Op := fun n => cond (Nat.blt n 8) (rw_3lll n) (rw_3llr n)
noncomputable def rw_3lrll : Nat → Option Op := fun n => cond (Nat.beq n 13) (some (oPush 3 14 (.int (Int32.ofInt (0))))) (cond (Nat.beq n 14) (some (oStore 3 15 3 0)) (none))
noncomputable def rw_3lrlr : Nat → Option Op := fun n => cond (Nat.beq n 15) (some (oLoad 3 16 3 0)) (cond (Nat.beq n 16) (some (oPush 3 17 (.int (Int32.ofInt (3))))) (cond (Nat.beq n 17) (some (oCmp2 3 20 65 .gt)) (none)))
noncomputable def rw_3lrl : Nat → Option Op := fun n => cond (Nat.blt n 15) (rw_3lrll n) (rw_3lrlr n)
noncomputable def rw_3lrrl : Nat → Option Op := fun n => cond (Nat.beq n 20) (some (oPush 3 21 (.int (Int32.ofInt (0))))) (cond (Nat.beq n 21) (some (oStore 3 23 4 0)) (none))
noncomputable def rw_3lrrr : Nat → Option Op := fun n => cond (Nat.beq n 23) (some (oLoad 3 25 4 0)) (cond (Nat.beq n 25) (some (oPush 3 26 (.int (Int32.ofInt (3))))) (cond (Nat.beq n 26) (some (oCmp2 3 29 59 .gt)) (none)))
noncomputable def rw_3lrr : Nat → Option Op := fun n => cond (Nat.blt n 23) (rw_3lrrl n) (rw_3lrrr n)
noncomputable def rw_3lr : Nat → Option Op := fun n => cond (Nat.blt n 20) (rw_3lrl n) (rw_3lrr n)
noncomputable def rw_3l : Nat → Option Op := fun n => cond (Nat.blt n 13) (rw_3ll n) (rw_3lr n)
noncomputable def rw_3rlll : Nat → Option Op := fun n => cond (Nat.beq n 29) (some (oLoad 3 30 0 4)) (cond (Nat.beq n 30) (some (oPush 3 31 (.int (Int32.ofInt (0))))) (none))
noncomputable def rw_3rllr : Nat → Option Op := fun n => cond (Nat.beq n 31) (some (oLoad 3 32 3 0)) (cond (Nat.beq n 32) (some (oLoad 3 34 4 0)) (cond (Nat.beq n 34) (some (oCall (runC 44) 3 37 2 4 0 8 hdN)) (none)))
noncomputable def rw_3rll : Nat → Option Op := fun n => cond (Nat.blt n 31) (rw_3rlll n) (rw_3rllr n)
noncomputable def rw_3rlrl : Nat → Option Op := fun n => cond (Nat.beq n 37) (some (oLoad 3 38 0 4)) (cond (Nat.beq n 38) (some (oPush 3 39 (.int (Int32.ofInt (1))))) (none))
noncomputable def rw_3rlrr : Nat → Option Op := fun n => cond (Nat.beq n 39) (some (oLoad 3 40 3 0)) (cond (Nat.beq n 40) (some (oLoad 3 42 4 0)) (cond (Nat.beq n 42) (some (oCall (runC 44) 3 45 2 4 0 8 hdN)) (none)))
noncomputable def rw_3rlr : Nat → Option Op := fun n => cond (Nat.blt n 39) (rw_3rlrl n) (rw_3rlrr n)
noncomputable def rw_3rl : Nat → Option Op := fun n => cond (Nat.blt n 37) (rw_3rll n) (rw_3rlr n)
noncomputable def rw_3rrll : Nat → Option Op := fun n => cond (Nat.beq n 45) (some (oBin sdv 3 46 1)) (cond (Nat.beq n 46) (some (oLoad 3 47 2 0)) (none))
noncomputable def rw_3rrlr : Nat → Option Op := fun n => cond (Nat.beq n 47) (some (oBin sdv 3 48 3)) (cond (Nat.beq n 48) (some (oCmp1 3 51 53 .eq)) (cond (Nat.beq n 53) (some (oIinc 3 56 4 (1))) (none)))
noncomputable def rw_3rrl : Nat → Option Op := fun n => cond (Nat.blt n 47) (rw_3rrll n) (rw_3rrlr n)
noncomputable def rw_3rrrl : Nat → Option Op := fun n => cond (Nat.beq n 56) (some (oGoto 3 23)) (cond (Nat.beq n 59) (some (oIinc 3 62 3 (1))) (none))
noncomputable def rw_3rrrr : Nat → Option Op := fun n => cond (Nat.beq n 62) (some (oGoto 3 15)) (cond (Nat.beq n 65) (some (oPush 3 66 (.int (Int32.ofInt (1))))) (cond (Nat.beq n 66) (some (oRet .boolean 0)) (none)))
noncomputable def rw_3rrr : Nat → Option Op := fun n => cond (Nat.blt n 62) (rw_3rrrl n) (rw_3rrrr n)
noncomputable def rw_3rr : Nat → Option Op := fun n => cond (Nat.blt n 56) (rw_3rrl n) (rw_3rrr n)
noncomputable def rw_3r : Nat → Option Op := fun n => cond (Nat.blt n 45) (rw_3rl n) (rw_3rr n)
noncomputable def rw_3 : Nat → Option Op := fun n => cond (Nat.blt n 29) (rw_3l n) (rw_3r n)
noncomputable def rw_4 : Nat → Option Op := fun n => cond (Nat.beq n 0) (some (oLoad 4 1 0 4)) (cond (Nat.beq n 1) (some (oLoad 4 2 1 0)) (cond (Nat.beq n 2) (some (oCall (runC 31) 4 5 2 2 0 2 hdN)) (none)))
noncomputable def rw_5lll : Nat → Option Op := fun n => cond (Nat.beq n 0) (some (oLoad 5 1 1 0)) (cond (Nat.beq n 1) (some (oPush 5 2 (.int (Int32.ofInt (0))))) (cond (Nat.beq n 2) (some (oPush 5 3 (.int (Int32.ofInt (1))))) (cond (Nat.beq n 3) (some (oCall (runC 33) 5 6 1 3 0 3 hdN)) (none))))
noncomputable def rw_5llrl : Nat → Option Op := fun n => cond (Nat.beq n 6) (some (oLoad 5 7 2 0)) (cond (Nat.beq n 7) (some (oPush 5 8 (.int (Int32.ofInt (0))))) (none))
noncomputable def rw_5llrr : Nat → Option Op := fun n => cond (Nat.beq n 8) (some (oPush 5 9 (.int (Int32.ofInt (1))))) (cond (Nat.beq n 9) (some (oCall (runC 33) 5 12 1 3 0 3 hdN)) (cond (Nat.beq n 12) (some (oLoad 5 13 3 0)) (none)))
noncomputable def rw_5llr : Nat → Option Op := fun n => cond (Nat.blt n 8) (rw_5llrl n) (rw_5llrr n)
noncomputable def rw_5ll : Nat → Option Op := fun n => cond (Nat.blt n 6) (rw_5lll n) (rw_5llr n)
noncomputable def rw_5lrll : Nat → Option Op := fun n => cond (Nat.beq n 13) (some (oPush 5 14 (.int (Int32.ofInt (0))))) (cond (Nat.beq n 14) (some (oPush 5 16 (.int (Int32.ofInt (9))))) (none))
noncomputable def rw_5lrlr : Nat → Option Op := fun n => cond (Nat.beq n 16) (some (oCall (runC 33) 5 19 1 3 0 3 hdN)) (cond (Nat.beq n 19) (some (oLoad 5 20 0 4)) (cond (Nat.beq n 20) (some (oCall (runC 32) 5 23 2 1 0 1 hdN)) (none)))
noncomputable def rw_5lrl : Nat → Option Op := fun n => cond (Nat.blt n 16) (rw_5lrll n) (rw_5lrlr n)
noncomputable def rw_5lrrl : Nat → Option Op := fun n => cond (Nat.beq n 23) (some (oLoad 5 24 0 4)) (cond (Nat.beq n 24) (some (oGet 5 27 0 0)) (none))
noncomputable def rw_5lrrr : Nat → Option Op := fun n => cond (Nat.beq n 27) (some (oLoad 5 28 1 0)) (cond (Nat.beq n 28) (some (oLoad 5 29 3 0)) (cond (Nat.beq n 29) (some (oCall (runC 65) 5 32 2 3 1 4 hdN)) (none)))
noncomputable def rw_5lrr : Nat → Option Op := fun n => cond (Nat.blt n 27) (rw_5lrrl n) (rw_5lrrr n)
noncomputable def rw_5lr : Nat → Option Op := fun n => cond (Nat.blt n 23) (rw_5lrl n) (rw_5lrr n)
noncomputable def rw_5l : Nat → Option Op := fun n => cond (Nat.blt n 13) (rw_5ll n) (rw_5lr n)
noncomputable def rw_5rll : Nat → Option Op := fun n => cond (Nat.beq n 32) (some (oCmp1 5 35 45 .lt)) (cond (Nat.beq n 45) (some (oLoad 5 46 0 4)) (cond (Nat.beq n 46) (some (oGet 5 49 0 0)) (cond (Nat.beq n 49) (some (oGet 5 52 1 11)) (none))))
noncomputable def rw_5rlrl : Nat → Option Op := fun n => cond (Nat.beq n 52) (some (oPush 5 54 (.int (Int32.ofInt (80))))) (cond (Nat.beq n 54) (some (oCmp2 5 57 69 .ge)) (none))
noncomputable def rw_5rlrr : Nat → Option Op := fun n => cond (Nat.beq n 57) (some (oLoad 5 58 0 4)) (cond (Nat.beq n 58) (some (oGet 5 61 0 0)) (cond (Nat.beq n 61) (some (oLoad 5 62 1 0)) (none)))
noncomputable def rw_5rlr : Nat → Option Op := fun n => cond (Nat.blt n 57) (rw_5rlrl n) (rw_5rlrr n)
noncomputable def rw_5rl : Nat → Option Op := fun n => cond (Nat.blt n 52) (rw_5rll n) (rw_5rlr n)
noncomputable def rw_5rrll : Nat → Option Op := fun n => cond (Nat.beq n 62) (some (oCall (runC 66) 5 65 2 2 1 2 hdN)) (cond (Nat.beq n 65) (some (oPush 5 66 (.int (Int32.ofInt (4))))) (none))
noncomputable def rw_5rrlr : Nat → Option Op := fun n => cond (Nat.beq n 66) (some (oCmp2 5 69 79 .lt)) (cond (Nat.beq n 79) (some (oLoad 5 80 0 4)) (cond (Nat.beq n 80) (some (oGet 5 83 0 0)) (none)))
noncomputable def rw_5rrl : Nat → Option Op := fun n => cond (Nat.blt n 66) (rw_5rrll n) (rw_5rrlr n)
noncomputable def rw_5rrrl : Nat → Option Op := fun n => cond (Nat.beq n 83) (some (oLoad 5 84 1 0)) (cond (Nat.beq n 84) (some (oLoad 5 85 2 0)) (none))
noncomputable def rw_5rrrr : Nat → Option Op := fun n => cond (Nat.beq n 85) (some (oLoad 5 86 3 0)) (cond (Nat.beq n 86) (some (oCall (runC 61) 5 89 2 4 1 4 hdN)) (cond (Nat.beq n 89) (some (oRet .int 0)) (none)))
noncomputable def rw_5rrr : Nat → Option Op := fun n => cond (Nat.blt n 85) (rw_5rrrl n) (rw_5rrrr n)
noncomputable def rw_5rr : Nat → Option Op := fun n => cond (Nat.blt n 83) (rw_5rrl n) (rw_5rrr n)
noncomputable def rw_5r : Nat → Option Op := fun n => cond (Nat.blt n 62) (rw_5rl n) (rw_5rr n)
noncomputable def rw_5 : Nat → Option Op := fun n => cond (Nat.blt n 32) (rw_5l n) (rw_5r n)
noncomputable def rw_6 : Nat → Option Op := fun n => cond (Nat.beq n 0) (some (oLoad 6 1 0 4)) (cond (Nat.beq n 1) (some (oCall (runC 30) 6 4 2 1 0 1 hdN)) (none))
noncomputable def rw_7l : Nat → Option Op := fun n => cond (Nat.beq n 0) (some (oLoad 7 1 0 4)) (cond (Nat.beq n 1) (some (oCall (runC 32) 7 4 2 1 0 1 hdN)) (cond (Nat.beq n 4) (some (oLoad 7 5 0 4)) (none)))
noncomputable def rw_7r : Nat → Option Op := fun n => cond (Nat.beq n 5) (some (oGet 7 8 0 0)) (cond (Nat.beq n 8) (some (oCall (runC 64) 7 11 2 1 1 2 hdN)) (cond (Nat.beq n 11) (some (oCmp1 7 14 24 .ne)) (cond (Nat.beq n 14) (some (oThrow 0 6 82)) (none))))
noncomputable def rw_7 : Nat → Option Op := fun n => cond (Nat.blt n 5) (rw_7l n) (rw_7r n)
noncomputable def rw_8lll : Nat → Option Op := fun n => cond (Nat.beq n 0) (some (oLoad 8 1 1 0)) (cond (Nat.beq n 1) (some (oPush 8 2 (.int (Int32.ofInt (0))))) (cond (Nat.beq n 2) (some (oPush 8 3 (.int (Int32.ofInt (1))))) (cond (Nat.beq n 3) (some (oCall (runC 33) 8 6 1 3 0 3 hdN)) (none))))
noncomputable def rw_8llrl : Nat → Option Op := fun n => cond (Nat.beq n 6) (some (oLoad 8 7 2 0)) (cond (Nat.beq n 7) (some (oPush 8 8 (.int (Int32.ofInt (0))))) (none))
noncomputable def rw_8llrr : Nat → Option Op := fun n => cond (Nat.beq n 8) (some (oPush 8 9 (.int (Int32.ofInt (3))))) (cond (Nat.beq n 9) (some (oCall (runC 33) 8 12 1 3 0 3 hdN)) (cond (Nat.beq n 12) (some (oLoad 8 13 3 0)) (none)))
noncomputable def rw_8llr : Nat → Option Op := fun n => cond (Nat.blt n 8) (rw_8llrl n) (rw_8llrr n)
noncomputable def rw_8ll : Nat → Option Op := fun n => cond (Nat.blt n 6) (rw_8lll n) (rw_8llr n)
noncomputable def rw_8lrll : Nat → Option Op := fun n => cond (Nat.beq n 13) (some (oPush 8 14 (.int (Int32.ofInt (0))))) (cond (Nat.beq n 14) (some (oPush 8 15 (.int (Int32.ofInt (3))))) (none))
noncomputable def rw_8lrlr : Nat → Option Op := fun n => cond (Nat.beq n 15) (some (oCall (runC 33) 8 18 1 3 0 3 hdN)) (cond (Nat.beq n 18) (some (oLoad 8 20 4 0)) (cond (Nat.beq n 20) (some (oPush 8 23 (.int (Int32.ofInt (-999))))) (none)))
noncomputable def rw_8lrl : Nat → Option Op := fun n => cond (Nat.blt n 15) (rw_8lrll n) (rw_8lrlr n)
noncomputable def rw_8lrrl : Nat → Option Op := fun n => cond (Nat.beq n 23) (some (oPush 8 26 (.int (Int32.ofInt (999))))) (cond (Nat.beq n 26) (some (oCall (runC 33) 8 29 1 3 0 3 hdN)) (none))
noncomputable def rw_8lrrr : Nat → Option Op := fun n => cond (Nat.beq n 29) (some (oPush 8 31 (.int (Int32.ofInt (16))))) (cond (Nat.beq n 31) (some (oLoad 8 32 1 0)) (cond (Nat.beq n 32) (some (oBin sdv 8 33 2)) (none)))
noncomputable def rw_8lrr : Nat → Option Op := fun n => cond (Nat.blt n 29) (rw_8lrrl n) (rw_8lrrr n)
noncomputable def rw_8lr : Nat → Option Op := fun n => cond (Nat.blt n 23) (rw_8lrl n) (rw_8lrr n)
noncomputable def rw_8l : Nat → Option Op := fun n => cond (Nat.blt n 13) (rw_8ll n) (rw_8lr n)
noncomputable def rw_8rll : Nat → Option Op := fun n => cond (Nat.beq n 33) (some (oPush 8 34 (.int (Int32.ofInt (4))))) (cond (Nat.beq n 34) (some (oLoad 8 35 2 0)) (cond (Nat.beq n 35) (some (oBin sdv 8 36 2)) (cond (Nat.beq n 36) (some (oBin sdv 8 37 0)) (none))))
noncomputable def rw_8rlrl : Nat → Option Op := fun n => cond (Nat.beq n 37) (some (oLoad 8 38 3 0)) (cond (Nat.beq n 38) (some (oBin sdv 8 39 0)) (none))
noncomputable def rw_8rlrr : Nat → Option Op := fun n => cond (Nat.beq n 39) (some (oStore 8 41 5 0)) (cond (Nat.beq n 41) (some (oLoad 8 42 0 4)) (cond (Nat.beq n 42) (some (oGet 8 45 0 1)) (none)))
noncomputable def rw_8rlr : Nat → Option Op := fun n => cond (Nat.blt n 39) (rw_8rlrl n) (rw_8rlrr n)
noncomputable def rw_8rl : Nat → Option Op := fun n => cond (Nat.blt n 37) (rw_8rll n) (rw_8rlr n)
noncomputable def rw_8rrll : Nat → Option Op := fun n => cond (Nat.beq n 45) (some (oLoad 8 47 5 0)) (cond (Nat.beq n 47) (some (oCall (runC 36) 8 50 1 2 0 2 hdN)) (none))
noncomputable def rw_8rrlr : Nat → Option Op := fun n => cond (Nat.beq n 50) (some (oStore 8 52 6 0)) (cond (Nat.beq n 52) (some (oLoad 8 53 0 4)) (cond (Nat.beq n 53) (some (oGet 8 56 0 1)) (none)))
noncomputable def rw_8rrl : Nat → Option Op := fun n => cond (Nat.blt n 50) (rw_8rrll n) (rw_8rrlr n)
noncomputable def rw_8rrrl : Nat → Option Op := fun n => cond (Nat.beq n 56) (some (oLoad 8 58 5 0)) (cond (Nat.beq n 58) (some (oLoad 8 60 4 0)) (none))
noncomputable def rw_8rrrr : Nat → Option Op := fun n => cond (Nat.beq n 60) (some (oCall (runC 47) 8 63 1 3 0 3 hdN)) (cond (Nat.beq n 63) (some (oLoad 8 65 6 0)) (cond (Nat.beq n 65) (some (oRet .int 0)) (none)))
noncomputable def rw_8rrr : Nat → Option Op := fun n => cond (Nat.blt n 60) (rw_8rrrl n) (rw_8rrrr n)
noncomputable def rw_8rr : Nat → Option Op := fun n => cond (Nat.blt n 56) (rw_8rrl n) (rw_8rrr n)
noncomputable def rw_8r : Nat → Option Op := fun n => cond (Nat.blt n 45) (rw_8rl n) (rw_8rr n)
noncomputable def rw_8 : Nat → Option Op := fun n => cond (Nat.blt n 33) (rw_8l n) (rw_8r n)
noncomputable def rw_9 : Nat → Option Op := fun n => cond (Nat.beq n 0) (some (oLoad 9 1 0 4)) (cond (Nat.beq n 1) (some (oLoad 9 2 1 0)) (cond (Nat.beq n 2) (some (oCall (runC 31) 9 5 2 2 0 2 hdN)) (none)))
noncomputable def rw_10 : Nat → Option Op := fun n => cond (Nat.beq n 0) (some (oLoad 10 1 0 4)) (cond (Nat.beq n 1) (some (oLoad 10 2 1 0)) (cond (Nat.beq n 2) (some (oCall (runC 31) 10 5 2 2 0 2 hdN)) (none)))
noncomputable def rw_11 : Nat → Option Op := fun n => cond (Nat.beq n 0) (some (oLoad 11 1 0 4)) (cond (Nat.beq n 1) (some (oLoad 11 2 1 0)) (cond (Nat.beq n 2) (some (oLoad 11 3 2 0)) (cond (Nat.beq n 3) (some (oCall (runC 34) 11 6 2 3 0 4 hdN)) (none))))
noncomputable def rw_12 : Nat → Option Op := fun n => cond (Nat.beq n 0) (some (oLoad 12 1 0 4)) (cond (Nat.beq n 1) (some (oLoad 12 2 1 0)) (cond (Nat.beq n 2) (some (oLoad 12 3 2 0)) (cond (Nat.beq n 3) (some (oCall (runC 34) 12 6 2 3 0 4 hdN)) (none))))
noncomputable def rw_13 : Nat → Option Op := fun n => cond (Nat.beq n 0) (some (oLoad 13 1 0 4)) (cond (Nat.beq n 1) (some (oLoad 13 2 1 0)) (cond (Nat.beq n 2) (some (oCall (runC 31) 13 5 2 2 0 2 hdN)) (none)))
noncomputable def rw_14 : Nat → Option Op := fun n => cond (Nat.beq n 0) (some (oLoad 14 1 0 4)) (cond (Nat.beq n 1) (some (oLoad 14 2 1 0)) (cond (Nat.beq n 2) (some (oCall (runC 31) 14 5 2 2 0 2 hdN)) (none)))
noncomputable def rw_15 : Nat → Option Op := fun n => cond (Nat.beq n 0) (some (oLoad 15 1 0 4)) (cond (Nat.beq n 1) (some (oCall (runC 30) 15 4 2 1 0 1 hdN)) (none))
noncomputable def rw_16lll : Nat → Option Op := fun n => cond (Nat.beq n 0) (some (oLoad 16 1 1 0)) (cond (Nat.beq n 1) (some (oPush 16 2 (.int (Int32.ofInt (0))))) (cond (Nat.beq n 2) (some (oPush 16 3 (.int (Int32.ofInt (1))))) (none)))
noncomputable def rw_16llr : Nat → Option Op := fun n => cond (Nat.beq n 3) (some (oCall (runC 33) 16 6 1 3 0 3 hdN)) (cond (Nat.beq n 6) (some (oLoad 16 7 2 0)) (cond (Nat.beq n 7) (some (oPush 16 9 (.int (Int32.ofInt (98))))) (cond (Nat.beq n 9) (some (oCmp2 16 12 18 .eq)) (none))))
noncomputable def rw_16ll : Nat → Option Op := fun n => cond (Nat.blt n 3) (rw_16lll n) (rw_16llr n)
noncomputable def rw_16lrl : Nat → Option Op := fun n => cond (Nat.beq n 12) (some (oLoad 16 13 2 0)) (cond (Nat.beq n 13) (some (oPush 16 15 (.int (Int32.ofInt (118))))) (cond (Nat.beq n 15) (some (oCmp2 16 18 22 .ne)) (none)))
noncomputable def rw_16lrr : Nat → Option Op := fun n => cond (Nat.beq n 18) (some (oPush 16 19 (.int (Int32.ofInt (1))))) (cond (Nat.beq n 19) (some (oGoto 16 23)) (cond (Nat.beq n 22) (some (oPush 16 23 (.int (Int32.ofInt (0))))) (cond (Nat.beq n 23) (some (oStore 16 25 5 0)) (none))))
noncomputable def rw_16lr : Nat → Option Op := fun n => cond (Nat.blt n 18) (rw_16lrl n) (rw_16lrr n)
noncomputable def rw_16l : Nat → Option Op := fun n => cond (Nat.blt n 12) (rw_16ll n) (rw_16lr n)
noncomputable def rw_16rll : Nat → Option Op := fun n => cond (Nat.beq n 25) (some (oLoad 16 27 5 0)) (cond (Nat.beq n 27) (some (oCmp1 16 30 47 .ne)) (cond (Nat.beq n 30) (some (oLoad 16 31 2 0)) (none)))
noncomputable def rw_16rlr : Nat → Option Op := fun n => cond (Nat.beq n 31) (some (oCall (runC 21) 16 34 1 1 0 1 hdN)) (cond (Nat.beq n 34) (some (oCmp1 16 37 47 .ne)) (cond (Nat.beq n 37) (some (oThrow 2 6 82)) (cond (Nat.beq n 47) (some (oLoad 16 49 5 0)) (none))))
noncomputable def rw_16rl : Nat → Option Op := fun n => cond (Nat.blt n 31) (rw_16rll n) (rw_16rlr n)
noncomputable def rw_16rrl : Nat → Option Op := fun n => cond (Nat.beq n 49) (some (oCmp1 16 52 56 .eq)) (cond (Nat.beq n 52) (some (oLoad 16 53 3 0)) (cond (Nat.beq n 53) (some (oGoto 16 58)) (cond (Nat.beq n 56) (some (oLoad 16 58 4 0)) (none))))
noncomputable def rw_16rrr : Nat → Option Op := fun n => cond (Nat.beq n 58) (some (oStore 16 60 6 0)) (cond (Nat.beq n 60) (some (oLoad 16 61 0 4)) (cond (Nat.beq n 61) (some (oLoad 16 62 3 0)) (cond (Nat.beq n 62) (some (oCall (runC 31) 16 65 2 2 0 2 hdN)) (none))))
noncomputable def rw_16rr : Nat → Option Op := fun n => cond (Nat.blt n 58) (rw_16rrl n) (rw_16rrr n)
noncomputable def rw_16r : Nat → Option Op := fun n => cond (Nat.blt n 49) (rw_16rl n) (rw_16rr n)
noncomputable def rw_16 : Nat → Option Op := fun n => cond (Nat.blt n 25) (rw_16l n) (rw_16r n)
noncomputable def rw_17ll : Nat → Option Op := fun n => cond (Nat.beq n 0) (some (oLoad 17 1 0 4)) (cond (Nat.beq n 1) (some (oCall (runC 32) 17 4 2 1 0 1 hdN)) (cond (Nat.beq n 4) (some (oLoad 17 5 0 4)) (cond (Nat.beq n 5) (some (oGet 17 8 0 0)) (none))))
noncomputable def rw_17lr : Nat → Option Op := fun n => cond (Nat.beq n 8) (some (oGet 17 11 1 11)) (cond (Nat.beq n 11) (some (oPush 17 13 (.int (Int32.ofInt (80))))) (cond (Nat.beq n 13) (some (oCmp2 17 16 28 .ge)) (cond (Nat.beq n 16) (some (oLoad 17 17 0 4)) (none))))
noncomputable def rw_17l : Nat → Option Op := fun n => cond (Nat.blt n 8) (rw_17ll n) (rw_17lr n)
noncomputable def rw_17rl : Nat → Option Op := fun n => cond (Nat.beq n 17) (some (oGet 17 20 0 0)) (cond (Nat.beq n 20) (some (oGet 17 23 1 12)) (cond (Nat.beq n 23) (some (oPush 17 25 (.int (Int32.ofInt (6))))) (cond (Nat.beq n 25) (some (oCmp2 17 28 38 .lt)) (none))))
noncomputable def rw_17rr : Nat → Option Op := fun n => cond (Nat.beq n 38) (some (oLoad 17 39 0 4)) (cond (Nat.beq n 39) (some (oGet 17 42 0 0)) (cond (Nat.beq n 42) (some (oCall (runC 62) 17 45 2 1 1 1 hdN)) (cond (Nat.beq n 45) (some (oRet .int 0)) (none))))
noncomputable def rw_17r : Nat → Option Op := fun n => cond (Nat.blt n 38) (rw_17rl n) (rw_17rr n)
noncomputable def rw_17 : Nat → Option Op := fun n => cond (Nat.blt n 17) (rw_17l n) (rw_17r n)
noncomputable def rw_18 : Nat → Option Op := fun n => cond (Nat.beq n 0) (some (oLoad 18 1 0 4)) (cond (Nat.beq n 1) (some (oLoad 18 2 1 0)) (cond (Nat.beq n 2) (some (oCall (runC 31) 18 5 2 2 0 2 hdN)) (none)))
noncomputable def rw_19l : Nat → Option Op := fun n => cond (Nat.beq n 0) (some (oLoad 19 1 1 0)) (cond (Nat.beq n 1) (some (oPush 19 2 (.int (Int32.ofInt (0))))) (cond (Nat.beq n 2) (some (oPush 19 4 (.int (Int32.ofInt (20))))) (none)))
noncomputable def rw_19r : Nat → Option Op := fun n => cond (Nat.beq n 4) (some (oCall (runC 33) 19 7 1 3 0 3 hdN)) (cond (Nat.beq n 7) (some (oLoad 19 8 0 4)) (cond (Nat.beq n 8) (some (oCall (runC 30) 19 11 2 1 0 1 hdN)) (none)))
noncomputable def rw_19 : Nat → Option Op := fun n => cond (Nat.blt n 4) (rw_19l n) (rw_19r n)
noncomputable def rw_20 : Nat → Option Op := fun n => cond (Nat.beq n 0) (some (oLoad 20 1 0 4)) (cond (Nat.beq n 1) (some (oLoad 20 2 1 0)) (cond (Nat.beq n 2) (some (oCall (runC 31) 20 5 2 2 0 2 hdN)) (none)))
noncomputable def rw_21ll : Nat → Option Op := fun n => cond (Nat.beq n 0) (some (oLoad 21 1 0 0)) (cond (Nat.beq n 1) (some (oPush 21 3 (.int (Int32.ofInt (97))))) (cond (Nat.beq n 3) (some (oCmp2 21 6 30 .eq)) (cond (Nat.beq n 6) (some (oLoad 21 7 0 0)) (none))))
noncomputable def rw_21lrl : Nat → Option Op := fun n => cond (Nat.beq n 7) (some (oPush 21 9 (.int (Int32.ofInt (111))))) (cond (Nat.beq n 9) (some (oCmp2 21 12 30 .eq)) (none))
noncomputable def rw_21lrr : Nat → Option Op := fun n => cond (Nat.beq n 12) (some (oLoad 21 13 0 0)) (cond (Nat.beq n 13) (some (oPush 21 15 (.int (Int32.ofInt (120))))) (cond (Nat.beq n 15) (some (oCmp2 21 18 30 .eq)) (none)))
noncomputable def rw_21lr : Nat → Option Op := fun n => cond (Nat.blt n 12) (rw_21lrl n) (rw_21lrr n)
noncomputable def rw_21l : Nat → Option Op := fun n => cond (Nat.blt n 7) (rw_21ll n) (rw_21lr n)
noncomputable def rw_21rll : Nat → Option Op := fun n => cond (Nat.beq n 18) (some (oLoad 21 19 0 0)) (cond (Nat.beq n 19) (some (oPush 21 21 (.int (Int32.ofInt (110))))) (none))
noncomputable def rw_21rlr : Nat → Option Op := fun n => cond (Nat.beq n 21) (some (oCmp2 21 24 30 .eq)) (cond (Nat.beq n 24) (some (oLoad 21 25 0 0)) (cond (Nat.beq n 25) (some (oPush 21 27 (.int (Int32.ofInt (114))))) (none)))
noncomputable def rw_21rl : Nat → Option Op := fun n => cond (Nat.blt n 21) (rw_21rll n) (rw_21rlr n)
noncomputable def rw_21rrl : Nat → Option Op := fun n => cond (Nat.beq n 27) (some (oCmp2 21 30 34 .ne)) (cond (Nat.beq n 30) (some (oPush 21 31 (.int (Int32.ofInt (1))))) (none))
noncomputable def rw_21rrr : Nat → Option Op := fun n => cond (Nat.beq n 31) (some (oGoto 21 35)) (cond (Nat.beq n 34) (some (oPush 21 35 (.int (Int32.ofInt (0))))) (cond (Nat.beq n 35) (some (oRet .boolean 0)) (none)))
noncomputable def rw_21rr : Nat → Option Op := fun n => cond (Nat.blt n 31) (rw_21rrl n) (rw_21rrr n)
noncomputable def rw_21r : Nat → Option Op := fun n => cond (Nat.blt n 27) (rw_21rl n) (rw_21rr n)
noncomputable def rw_21 : Nat → Option Op := fun n => cond (Nat.blt n 18) (rw_21l n) (rw_21r n)
noncomputable def rw_22l : Nat → Option Op := fun n => cond (Nat.beq n 0) (some (oLoad 22 1 0 4)) (cond (Nat.beq n 1) (some (oGet 22 4 0 2)) (cond (Nat.beq n 4) (some (oNull 22 7 17 true)) (none)))
noncomputable def rw_22r : Nat → Option Op := fun n => cond (Nat.beq n 17) (some (oPush 22 18 (.int (Int32.ofInt (1))))) (cond (Nat.beq n 18) (some (oGoto 22 22)) (cond (Nat.beq n 22) (some (oRet .boolean 0)) (none)))
noncomputable def rw_22 : Nat → Option Op := fun n => cond (Nat.blt n 17) (rw_22l n) (rw_22r n)
noncomputable def rw_23 : Nat → Option Op := fun n => cond (Nat.beq n 0) (some (oLoad 23 1 0 4)) (cond (Nat.beq n 1) (some (oGet 23 4 0 0)) (cond (Nat.beq n 4) (some (oGet 23 7 1 11)) (cond (Nat.beq n 7) (some (oRet .int 0)) (none))))
noncomputable def rw_24 : Nat → Option Op := fun n => cond (Nat.beq n 0) (some (oLoad 24 1 0 4)) (cond (Nat.beq n 1) (some (oLoad 24 2 1 0)) (cond (Nat.beq n 2) (some (oCall (runC 31) 24 5 2 2 0 2 hdN)) (none)))
noncomputable def rw_25 : Nat → Option Op := fun n => cond (Nat.beq n 0) (some (oLoad 25 1 0 4)) (cond (Nat.beq n 1) (some (oCall (runC 30) 25 4 2 1 0 1 hdN)) (none))
noncomputable def rw_26l : Nat → Option Op := fun n => cond (Nat.beq n 0) (some (oLoad 26 1 0 4)) (cond (Nat.beq n 1) (some (oGet 26 4 0 2)) (cond (Nat.beq n 4) (some (oNull 26 7 11 false)) (none)))
noncomputable def rw_26r : Nat → Option Op := fun n => cond (Nat.beq n 7) (some (oPush 26 8 (.long (Int64.ofNat 0)))) (cond (Nat.beq n 8) (some (oGoto 26 21)) (cond (Nat.beq n 21) (some (oRet .long 1)) (none)))
noncomputable def rw_26 : Nat → Option Op := fun n => cond (Nat.blt n 7) (rw_26l n) (rw_26r n)
noncomputable def rw_27 : Nat → Option Op := fun n => cond (Nat.beq n 0) (some (oLoad 27 1 0 4)) (cond (Nat.beq n 1) (some (oLoad 27 2 1 0)) (cond (Nat.beq n 2) (some (oCall (runC 31) 27 5 2 2 0 2 hdN)) (none)))
noncomputable def rw_28l : Nat → Option Op := fun n => cond (Nat.beq n 0) (some (oLoad 28 1 0 4)) (cond (Nat.beq n 1) (some (oGet 28 4 0 0)) (none))
noncomputable def rw_28r : Nat → Option Op := fun n => cond (Nat.beq n 4) (some (oGet 28 7 1 11)) (cond (Nat.beq n 7) (some (oCmp1 28 10 21 .ne)) (cond (Nat.beq n 10) (some (oThrow 3 6 82)) (none)))
noncomputable def rw_28 : Nat → Option Op := fun n => cond (Nat.blt n 4) (rw_28l n) (rw_28r n)
noncomputable def rw_29ll : Nat → Option Op := fun n => cond (Nat.beq n 0) (some (oLoad 29 1 1 0)) (cond (Nat.beq n 1) (some (oPush 29 2 (.int (Int32.ofInt (0))))) (none))
noncomputable def rw_29lr : Nat → Option Op := fun n => cond (Nat.beq n 2) (some (oPush 29 3 (.int (Int32.ofInt (1))))) (cond (Nat.beq n 3) (some (oLoad 29 4 0 4)) (cond (Nat.beq n 4) (some (oGet 29 7 0 0)) (none)))
noncomputable def rw_29l : Nat → Option Op := fun n => cond (Nat.blt n 2) (rw_29ll n) (rw_29lr n)
noncomputable def rw_29rl : Nat → Option Op := fun n => cond (Nat.beq n 7) (some (oCall (runC 69) 29 10 2 1 1 1 hdN)) (cond (Nat.beq n 10) (some (oBin sdv 29 11 6)) (cond (Nat.beq n 11) (some (oPush 29 12 (.int (Int32.ofInt (1))))) (none)))
noncomputable def rw_29rr : Nat → Option Op := fun n => cond (Nat.beq n 12) (some (oBin sdv 29 13 1)) (cond (Nat.beq n 13) (some (oCall (runC 33) 29 16 1 3 0 3 hdN)) (cond (Nat.beq n 16) (some (oRet0)) (none)))
noncomputable def rw_29r : Nat → Option Op := fun n => cond (Nat.blt n 12) (rw_29rl n) (rw_29rr n)
noncomputable def rw_29 : Nat → Option Op := fun n => cond (Nat.blt n 7) (rw_29l n) (rw_29r n)
noncomputable def rw_30 : Nat → Option Op := fun n => cond (Nat.beq n 0) (some (oLoad 30 1 0 4)) (cond (Nat.beq n 1) (some (oGet 30 4 0 2)) (cond (Nat.beq n 4) (some (oNull 30 7 18 false)) (cond (Nat.beq n 7) (some (oThrow 0 6 82)) (none))))
noncomputable def rw_31l : Nat → Option Op := fun n => cond (Nat.beq n 0) (some (oLoad 31 1 0 4)) (cond (Nat.beq n 1) (some (oGet 31 4 0 0)) (cond (Nat.beq n 4) (some (oLoad 31 5 1 0)) (none)))
noncomputable def rw_31r : Nat → Option Op := fun n => cond (Nat.beq n 5) (some (oCall (runC 67) 31 8 2 2 1 2 hdN)) (cond (Nat.beq n 8) (some (oCmp1 31 11 22 .ne)) (cond (Nat.beq n 11) (some (oThrow 1 6 82)) (none)))
noncomputable def rw_31 : Nat → Option Op := fun n => cond (Nat.blt n 5) (rw_31l n) (rw_31r n)
noncomputable def rw_32 : Nat → Option Op := fun n => cond (Nat.beq n 0) (some (oLoad 32 1 0 4)) (cond (Nat.beq n 1) (some (oGet 32 4 0 2)) (cond (Nat.beq n 4) (some (oNull 32 7 18 true)) (cond (Nat.beq n 18) (some (oRet0)) (none))))
noncomputable def rw_33l : Nat → Option Op := fun n => cond (Nat.beq n 0) (some (oLoad 33 1 0 0)) (cond (Nat.beq n 1) (some (oLoad 33 2 1 0)) (cond (Nat.beq n 2) (some (oCmp2 33 5 10 .lt)) (cond (Nat.beq n 5) (some (oLoad 33 6 0 0)) (none))))
noncomputable def rw_33r : Nat → Option Op := fun n => cond (Nat.beq n 6) (some (oLoad 33 7 2 0)) (cond (Nat.beq n 7) (some (oCmp2 33 10 21 .le)) (cond (Nat.beq n 10) (some (oThrow 2 6 82)) (cond (Nat.beq n 21) (some (oRet0)) (none))))
noncomputable def rw_33 : Nat → Option Op := fun n => cond (Nat.blt n 6) (rw_33l n) (rw_33r n)
noncomputable def rw_34 : Nat → Option Op := fun n => cond (Nat.beq n 0) (some (oLoad 34 1 0 4)) (cond (Nat.beq n 1) (some (oLoad 34 2 1 0)) (cond (Nat.beq n 2) (some (oCall (runC 31) 34 5 2 2 0 2 hdN)) (none)))
noncomputable def rw_35ll : Nat → Option Op := fun n => cond (Nat.beq n 0) (some (oLoad 35 1 1 0)) (cond (Nat.beq n 1) (some (oPush 35 2 (.int (Int32.ofInt (1))))) (cond (Nat.beq n 2) (some (oPush 35 3 (.int (Int32.ofInt (4))))) (none)))
noncomputable def rw_35lr : Nat → Option Op := fun n => cond (Nat.beq n 3) (some (oCall (runC 33) 35 6 1 3 0 3 hdN)) (cond (Nat.beq n 6) (some (oLoad 35 7 2 0)) (cond (Nat.beq n 7) (some (oPush 35 8 (.int (Int32.ofInt (0))))) (none)))
noncomputable def rw_35l : Nat → Option Op := fun n => cond (Nat.blt n 3) (rw_35ll n) (rw_35lr n)
noncomputable def rw_35rl : Nat → Option Op := fun n => cond (Nat.beq n 8) (some (oLoad 35 9 1 0)) (cond (Nat.beq n 9) (some (oCall (runC 59) 35 12 1 1 0 1 hdN)) (cond (Nat.beq n 12) (some (oCall (runC 33) 35 15 1 3 0 3 hdN)) (none)))
noncomputable def rw_35rr : Nat → Option Op := fun n => cond (Nat.beq n 15) (some (oLoad 35 16 1 0)) (cond (Nat.beq n 16) (some (oLoad 35 17 2 0)) (cond (Nat.beq n 17) (some (oCall hk_196 35 20 1 2 0 7 hdN)) (cond (Nat.beq n 20) (some (oRet .int 0)) (none))))
noncomputable def rw_35r : Nat → Option Op := fun n => cond (Nat.blt n 15) (rw_35rl n) (rw_35rr n)
noncomputable def rw_35 : Nat → Option Op := fun n => cond (Nat.blt n 8) (rw_35l n) (rw_35r n)
noncomputable def rw_36ll : Nat → Option Op := fun n => cond (Nat.beq n 0) (some (oLoad 36 1 1 0)) (cond (Nat.beq n 1) (some (oCmp1 36 4 16 .lt)) (none))
noncomputable def rw_36lr : Nat → Option Op := fun n => cond (Nat.beq n 4) (some (oLoad 36 5 1 0)) (cond (Nat.beq n 5) (some (oLoad 36 6 0 4)) (cond (Nat.beq n 6) (some (oLen slen 36 7)) (none)))
noncomputable def rw_36l : Nat → Option Op := fun n => cond (Nat.blt n 4) (rw_36ll n) (rw_36lr n)
noncomputable def rw_36rl : Nat → Option Op := fun n => cond (Nat.beq n 7) (some (oCmp2 36 10 16 .ge)) (cond (Nat.beq n 10) (some (oLoad 36 11 0 4)) (cond (Nat.beq n 11) (some (oLoad 36 12 1 0)) (none)))
noncomputable def rw_36rr : Nat → Option Op := fun n => cond (Nat.beq n 12) (some (oIald 36 13)) (cond (Nat.beq n 13) (some (oGoto 36 17)) (cond (Nat.beq n 17) (some (oRet .int 0)) (none)))
noncomputable def rw_36r : Nat → Option Op := fun n => cond (Nat.blt n 12) (rw_36rl n) (rw_36rr n)
noncomputable def rw_36 : Nat → Option Op := fun n => cond (Nat.blt n 7) (rw_36l n) (rw_36r n)
noncomputable def rw_37 : Nat → Option Op := fun n => cond (Nat.beq n 0) (some (oLoad 37 1 0 4)) (cond (Nat.beq n 1) (some (oCall (runC 30) 37 4 2 1 0 1 hdN)) (none))
noncomputable def rw_38l : Nat → Option Op := fun n => cond (Nat.beq n 0) (some (oLoad 38 1 1 0)) (cond (Nat.beq n 1) (some (oPush 38 2 (.int (Int32.ofInt (0))))) (cond (Nat.beq n 2) (some (oPush 38 3 (.int (Int32.ofInt (1))))) (none)))
noncomputable def rw_38r : Nat → Option Op := fun n => cond (Nat.beq n 3) (some (oCall (runC 33) 38 6 1 3 0 3 hdN)) (cond (Nat.beq n 6) (some (oLoad 38 7 0 4)) (cond (Nat.beq n 7) (some (oLoad 38 8 2 0)) (cond (Nat.beq n 8) (some (oCall (runC 31) 38 11 2 2 0 2 hdN)) (none))))
noncomputable def rw_38 : Nat → Option Op := fun n => cond (Nat.blt n 3) (rw_38l n) (rw_38r n)
noncomputable def rw_39 : Nat → Option Op := fun n => cond (Nat.beq n 0) (some (oLoad 39 1 0 4)) (cond (Nat.beq n 1) (some (oLoad 39 2 1 0)) (cond (Nat.beq n 2) (some (oCall (runC 31) 39 5 2 2 0 2 hdN)) (none)))
noncomputable def rw_40l : Nat → Option Op := fun n => cond (Nat.beq n 0) (some (oLoad 40 1 0 4)) (cond (Nat.beq n 1) (some (oLoad 40 2 1 0)) (none))
noncomputable def rw_40r : Nat → Option Op := fun n => cond (Nat.beq n 2) (some (oCall (runC 29) 40 5 2 2 0 2 hdN)) (cond (Nat.beq n 5) (some (oLoad 40 6 0 4)) (cond (Nat.beq n 6) (some (oCall (runC 30) 40 9 2 1 0 1 hdN)) (none)))
noncomputable def rw_40 : Nat → Option Op := fun n => cond (Nat.blt n 2) (rw_40l n) (rw_40r n)
noncomputable def rw_41l : Nat → Option Op := fun n => cond (Nat.beq n 0) (some (oLoad 41 1 0 4)) (cond (Nat.beq n 1) (some (oGet 41 4 0 2)) (cond (Nat.beq n 4) (some (oNull 41 7 11 false)) (none)))
noncomputable def rw_41r : Nat → Option Op := fun n => cond (Nat.beq n 7) (some (oPush 41 8 (.int (Int32.ofInt (0))))) (cond (Nat.beq n 8) (some (oGoto 41 21)) (cond (Nat.beq n 21) (some (oRet .int 0)) (none)))
noncomputable def rw_41 : Nat → Option Op := fun n => cond (Nat.blt n 7) (rw_41l n) (rw_41r n)
noncomputable def rw_42 : Nat → Option Op := fun n => cond (Nat.beq n 0) (some (oLoad 42 1 0 4)) (cond (Nat.beq n 1) (some (oCall (runC 30) 42 4 2 1 0 1 hdN)) (none))
noncomputable def rw_43 : Nat → Option Op := fun n => cond (Nat.beq n 0) (some (oLoad 43 1 0 4)) (cond (Nat.beq n 1) (some (oCall (runC 30) 43 4 2 1 0 1 hdN)) (none))
noncomputable def rw_44llll : Nat → Option Op := fun n => cond (Nat.beq n 0) (some (oPush 44 1 (.int (Int32.ofInt (0))))) (cond (Nat.beq n 1) (some (oStore 44 3 4 0)) (none))
noncomputable def rw_44lllr : Nat → Option Op := fun n => cond (Nat.beq n 3) (some (oPush 44 4 (.int (Int32.ofInt (3))))) (cond (Nat.beq n 4) (some (oStore 44 6 5 0)) (cond (Nat.beq n 6) (some (oLoad 44 8 5 0)) (none)))
noncomputable def rw_44lll : Nat → Option Op := fun n => cond (Nat.blt n 3) (rw_44llll n) (rw_44lllr n)
noncomputable def rw_44llrl : Nat → Option Op := fun n => cond (Nat.beq n 8) (some (oCmp1 44 11 69 .lt)) (cond (Nat.beq n 11) (some (oPush 44 12 (.int (Int32.ofInt (0))))) (none))
noncomputable def rw_44llrr : Nat → Option Op := fun n => cond (Nat.beq n 12) (some (oStore 44 14 6 0)) (cond (Nat.beq n 14) (some (oPush 44 15 (.int (Int32.ofInt (3))))) (cond (Nat.beq n 15) (some (oStore 44 17 7 0)) (none)))
noncomputable def rw_44llr : Nat → Option Op := fun n => cond (Nat.blt n 12) (rw_44llrl n) (rw_44llrr n)
noncomputable def rw_44ll : Nat → Option Op := fun n => cond (Nat.blt n 8) (rw_44lll n) (rw_44llr n)
noncomputable def rw_44lrll : Nat → Option Op := fun n => cond (Nat.beq n 17) (some (oLoad 44 19 7 0)) (cond (Nat.beq n 19) (some (oCmp1 44 22 54 .lt)) (none))
noncomputable def rw_44lrlr : Nat → Option Op := fun n => cond (Nat.beq n 22) (some (oLoad 44 24 6 0)) (cond (Nat.beq n 24) (some (oLoad 44 25 3 0)) (cond (Nat.beq n 25) (some (oBin sdv 44 26 2)) (none)))
noncomputable def rw_44lrl : Nat → Option Op := fun n => cond (Nat.blt n 22) (rw_44lrll n) (rw_44lrlr n)
noncomputable def rw_44lrrl : Nat → Option Op := fun n => cond (Nat.beq n 26) (some (oLoad 44 27 0 4)) (cond (Nat.beq n 27) (some (oGet 44 30 0 1)) (none))
noncomputable def rw_44lrrr : Nat → Option Op := fun n => cond (Nat.beq n 30) (some (oPush 44 32 (.int (Int32.ofInt (16))))) (cond (Nat.beq n 32) (some (oLoad 44 33 1 0)) (cond (Nat.beq n 33) (some (oBin sdv 44 34 2)) (none)))
noncomputable def rw_44lrr : Nat → Option Op := fun n => cond (Nat.blt n 30) (rw_44lrrl n) (rw_44lrrr n)
noncomputable def rw_44lr : Nat → Option Op := fun n => cond (Nat.blt n 26) (rw_44lrl n) (rw_44lrr n)
noncomputable def rw_44l : Nat → Option Op := fun n => cond (Nat.blt n 17) (rw_44ll n) (rw_44lr n)
noncomputable def rw_44rlll : Nat → Option Op := fun n => cond (Nat.beq n 34) (some (oPush 44 35 (.int (Int32.ofInt (4))))) (cond (Nat.beq n 35) (some (oLoad 44 37 5 0)) (none))
noncomputable def rw_44rllr : Nat → Option Op := fun n => cond (Nat.beq n 37) (some (oBin sdv 44 38 2)) (cond (Nat.beq n 38) (some (oBin sdv 44 39 0)) (cond (Nat.beq n 39) (some (oLoad 44 41 7 0)) (none)))
noncomputable def rw_44rll : Nat → Option Op := fun n => cond (Nat.blt n 37) (rw_44rlll n) (rw_44rllr n)
noncomputable def rw_44rlrl : Nat → Option Op := fun n => cond (Nat.beq n 41) (some (oBin sdv 44 42 0)) (cond (Nat.beq n 42) (some (oCall (runC 36) 44 45 1 2 0 2 hdN)) (none))
noncomputable def rw_44rlrr : Nat → Option Op := fun n => cond (Nat.beq n 45) (some (oBin sdv 44 46 0)) (cond (Nat.beq n 46) (some (oStore 44 48 6 0)) (cond (Nat.beq n 48) (some (oIinc 44 51 7 (-1))) (none)))
noncomputable def rw_44rlr : Nat → Option Op := fun n => cond (Nat.blt n 45) (rw_44rlrl n) (rw_44rlrr n)
noncomputable def rw_44rl : Nat → Option Op := fun n => cond (Nat.blt n 41) (rw_44rll n) (rw_44rlr n)
noncomputable def rw_44rrll : Nat → Option Op := fun n => cond (Nat.beq n 51) (some (oGoto 44 17)) (cond (Nat.beq n 54) (some (oLoad 44 56 4 0)) (none))
noncomputable def rw_44rrlr : Nat → Option Op := fun n => cond (Nat.beq n 56) (some (oLoad 44 57 2 0)) (cond (Nat.beq n 57) (some (oBin sdv 44 58 2)) (cond (Nat.beq n 58) (some (oLoad 44 60 6 0)) (none)))
noncomputable def rw_44rrl : Nat → Option Op := fun n => cond (Nat.blt n 56) (rw_44rrll n) (rw_44rrlr n)
noncomputable def rw_44rrrl : Nat → Option Op := fun n => cond (Nat.beq n 60) (some (oBin sdv 44 61 0)) (cond (Nat.beq n 61) (some (oStore 44 63 4 0)) (cond (Nat.beq n 63) (some (oIinc 44 66 5 (-1))) (none)))
noncomputable def rw_44rrrr : Nat → Option Op := fun n => cond (Nat.beq n 66) (some (oGoto 44 6)) (cond (Nat.beq n 69) (some (oLoad 44 71 4 0)) (cond (Nat.beq n 71) (some (oRet .int 0)) (none)))
noncomputable def rw_44rrr : Nat → Option Op := fun n => cond (Nat.blt n 66) (rw_44rrrl n) (rw_44rrrr n)
noncomputable def rw_44rr : Nat → Option Op := fun n => cond (Nat.blt n 60) (rw_44rrl n) (rw_44rrr n)
noncomputable def rw_44r : Nat → Option Op := fun n => cond (Nat.blt n 51) (rw_44rl n) (rw_44rr n)
noncomputable def rw_44 : Nat → Option Op := fun n => cond (Nat.blt n 34) (rw_44l n) (rw_44r n)
noncomputable def rw_45 : Nat → Option Op := fun n => cond (Nat.beq n 0) (some (oLoad 45 1 0 4)) (cond (Nat.beq n 1) (some (oLoad 45 2 1 0)) (cond (Nat.beq n 2) (some (oCall (runC 31) 45 5 2 2 0 2 hdN)) (none)))
noncomputable def rw_46 : Nat → Option Op := fun n => cond (Nat.beq n 0) (some (oLoad 46 1 0 4)) (cond (Nat.beq n 1) (some (oLoad 46 2 1 0)) (cond (Nat.beq n 2) (some (oCall (runC 31) 46 5 2 2 0 2 hdN)) (none)))
noncomputable def rw_47ll : Nat → Option Op := fun n => cond (Nat.beq n 0) (some (oLoad 47 1 1 0)) (cond (Nat.beq n 1) (some (oCmp1 47 4 14 .lt)) (none))
noncomputable def rw_47lr : Nat → Option Op := fun n => cond (Nat.beq n 4) (some (oLoad 47 5 1 0)) (cond (Nat.beq n 5) (some (oLoad 47 6 0 4)) (cond (Nat.beq n 6) (some (oLen slen 47 7)) (none)))
noncomputable def rw_47l : Nat → Option Op := fun n => cond (Nat.blt n 4) (rw_47ll n) (rw_47lr n)
noncomputable def rw_47rl : Nat → Option Op := fun n => cond (Nat.beq n 7) (some (oCmp2 47 10 14 .ge)) (cond (Nat.beq n 10) (some (oLoad 47 11 0 4)) (cond (Nat.beq n 11) (some (oLoad 47 12 1 0)) (none)))
noncomputable def rw_47rr : Nat → Option Op := fun n => cond (Nat.beq n 12) (some (oLoad 47 13 2 0)) (cond (Nat.beq n 13) (some (oIast 47 14)) (cond (Nat.beq n 14) (some (oRet0)) (none)))
noncomputable def rw_47r : Nat → Option Op := fun n => cond (Nat.blt n 12) (rw_47rl n) (rw_47rr n)
noncomputable def rw_47 : Nat → Option Op := fun n => cond (Nat.blt n 7) (rw_47l n) (rw_47r n)
noncomputable def rw_48 : Nat → Option Op := fun n => cond (Nat.beq n 0) (some (oLoad 48 1 0 4)) (cond (Nat.beq n 1) (some (oCall (runC 30) 48 4 2 1 0 1 hdN)) (none))
noncomputable def rw_49lll : Nat → Option Op := fun n => cond (Nat.beq n 0) (some (oLoad 49 1 1 0)) (cond (Nat.beq n 1) (some (oPush 49 2 (.int (Int32.ofInt (0))))) (none))
noncomputable def rw_49llr : Nat → Option Op := fun n => cond (Nat.beq n 2) (some (oPush 49 3 (.int (Int32.ofInt (1))))) (cond (Nat.beq n 3) (some (oCall (runC 33) 49 6 1 3 0 3 hdN)) (cond (Nat.beq n 6) (some (oLoad 49 7 2 0)) (none)))
noncomputable def rw_49ll : Nat → Option Op := fun n => cond (Nat.blt n 2) (rw_49lll n) (rw_49llr n)
noncomputable def rw_49lrl : Nat → Option Op := fun n => cond (Nat.beq n 7) (some (oPush 49 8 (.int (Int32.ofInt (0))))) (cond (Nat.beq n 8) (some (oPush 49 10 (.int (Int32.ofInt (30))))) (cond (Nat.beq n 10) (some (oCall (runC 33) 49 13 1 3 0 3 hdN)) (none)))
noncomputable def rw_49lrr : Nat → Option Op := fun n => cond (Nat.beq n 13) (some (oLoad 49 14 3 0)) (cond (Nat.beq n 14) (some (oPush 49 15 (.int (Int32.ofInt (0))))) (cond (Nat.beq n 15) (some (oPush 49 16 (.int (Int32.ofInt (1))))) (none)))
noncomputable def rw_49lr : Nat → Option Op := fun n => cond (Nat.blt n 13) (rw_49lrl n) (rw_49lrr n)
noncomputable def rw_49l : Nat → Option Op := fun n => cond (Nat.blt n 7) (rw_49ll n) (rw_49lr n)
noncomputable def rw_49rll : Nat → Option Op := fun n => cond (Nat.beq n 16) (some (oLoad 49 17 0 4)) (cond (Nat.beq n 17) (some (oGet 49 20 0 0)) (cond (Nat.beq n 20) (some (oGet 49 23 1 12)) (none)))
noncomputable def rw_49rlr : Nat → Option Op := fun n => cond (Nat.beq n 23) (some (oBin sdv 49 24 6)) (cond (Nat.beq n 24) (some (oPush 49 25 (.int (Int32.ofInt (1))))) (cond (Nat.beq n 25) (some (oBin sdv 49 26 1)) (none)))
noncomputable def rw_49rl : Nat → Option Op := fun n => cond (Nat.blt n 23) (rw_49rll n) (rw_49rlr n)
noncomputable def rw_49rrl : Nat → Option Op := fun n => cond (Nat.beq n 26) (some (oCall (runC 33) 49 29 1 3 0 3 hdN)) (cond (Nat.beq n 29) (some (oLoad 49 30 0 4)) (cond (Nat.beq n 30) (some (oGet 49 33 0 2)) (none)))
noncomputable def rw_49rrr : Nat → Option Op := fun n => cond (Nat.beq n 33) (some (oNull 49 36 60 true)) (cond (Nat.beq n 60) (some (oLoad 49 61 0 4)) (cond (Nat.beq n 61) (some (oCall (runC 30) 49 64 2 1 0 1 hdN)) (none)))
noncomputable def rw_49rr : Nat → Option Op := fun n => cond (Nat.blt n 33) (rw_49rrl n) (rw_49rrr n)
noncomputable def rw_49r : Nat → Option Op := fun n => cond (Nat.blt n 26) (rw_49rl n) (rw_49rr n)
noncomputable def rw_49 : Nat → Option Op := fun n => cond (Nat.blt n 16) (rw_49l n) (rw_49r n)
noncomputable def rw_50 : Nat → Option Op := fun n => cond (Nat.beq n 0) (some (oLoad 50 1 0 4)) (cond (Nat.beq n 1) (some (oLoad 50 2 1 0)) (cond (Nat.beq n 2) (some (oCall (runC 31) 50 5 2 2 0 2 hdN)) (none)))
noncomputable def rw_51 : Nat → Option Op := fun n => cond (Nat.beq n 0) (some (oLoad 51 1 0 4)) (cond (Nat.beq n 1) (some (oCall (runC 30) 51 4 2 1 0 1 hdN)) (none))
noncomputable def rw_52 : Nat → Option Op := fun n => cond (Nat.beq n 0) (some (oLoad 52 1 0 4)) (cond (Nat.beq n 1) (some (oLoad 52 2 1 0)) (cond (Nat.beq n 2) (some (oCall (runC 31) 52 5 2 2 0 2 hdN)) (none)))
noncomputable def rw_53l : Nat → Option Op := fun n => cond (Nat.beq n 0) (some (oLoad 53 1 1 0)) (cond (Nat.beq n 1) (some (oPush 53 2 (.int (Int32.ofInt (1))))) (cond (Nat.beq n 2) (some (oPush 53 5 (.int (Int32.ofInt (20000))))) (none)))
noncomputable def rw_53r : Nat → Option Op := fun n => cond (Nat.beq n 5) (some (oCall (runC 33) 53 8 1 3 0 3 hdN)) (cond (Nat.beq n 8) (some (oLoad 53 9 0 4)) (cond (Nat.beq n 9) (some (oCall (runC 30) 53 12 2 1 0 1 hdN)) (none)))
noncomputable def rw_53 : Nat → Option Op := fun n => cond (Nat.blt n 5) (rw_53l n) (rw_53r n)
noncomputable def rw_54 : Nat → Option Op := fun n => cond (Nat.beq n 0) (some (oLoad 54 1 0 4)) (cond (Nat.beq n 1) (some (oLoad 54 2 1 0)) (cond (Nat.beq n 2) (some (oLoad 54 3 2 0)) (cond (Nat.beq n 3) (some (oCall (runC 34) 54 6 2 3 0 4 hdN)) (none))))
noncomputable def rw_55 : Nat → Option Op := fun n => cond (Nat.beq n 0) (some (oLoad 55 1 0 4)) (cond (Nat.beq n 1) (some (oCall (runC 30) 55 4 2 1 0 1 hdN)) (none))
noncomputable def rw_56 : Nat → Option Op := fun n => cond (Nat.beq n 0) (some (oLoad 56 1 0 4)) (cond (Nat.beq n 1) (some (oLoad 56 2 1 0)) (cond (Nat.beq n 2) (some (oCall (runC 31) 56 5 2 2 0 2 hdN)) (none)))
noncomputable def rw_57 : Nat → Option Op := fun n => cond (Nat.beq n 0) (some (oLoad 57 1 0 4)) (cond (Nat.beq n 1) (some (oLoad 57 2 1 0)) (cond (Nat.beq n 2) (some (oCall (runC 31) 57 5 2 2 0 2 hdN)) (none)))
noncomputable def rw_58lll : Nat → Option Op := fun n => cond (Nat.beq n 0) (some (oLoad 58 1 1 0)) (cond (Nat.beq n 1) (some (oPush 58 2 (.int (Int32.ofInt (0))))) (none))
noncomputable def rw_58llr : Nat → Option Op := fun n => cond (Nat.beq n 2) (some (oPush 58 3 (.int (Int32.ofInt (1))))) (cond (Nat.beq n 3) (some (oCall (runC 33) 58 6 1 3 0 3 hdN)) (cond (Nat.beq n 6) (some (oLoad 58 7 2 0)) (none)))
noncomputable def rw_58ll : Nat → Option Op := fun n => cond (Nat.blt n 2) (rw_58lll n) (rw_58llr n)
noncomputable def rw_58lrl : Nat → Option Op := fun n => cond (Nat.beq n 7) (some (oPush 58 8 (.int (Int32.ofInt (1))))) (cond (Nat.beq n 8) (some (oPush 58 10 (.int (Int32.ofInt (6))))) (none))
noncomputable def rw_58lrr : Nat → Option Op := fun n => cond (Nat.beq n 10) (some (oCall (runC 33) 58 13 1 3 0 3 hdN)) (cond (Nat.beq n 13) (some (oLoad 58 14 0 4)) (cond (Nat.beq n 14) (some (oLoad 58 15 1 0)) (none)))
noncomputable def rw_58lr : Nat → Option Op := fun n => cond (Nat.blt n 10) (rw_58lrl n) (rw_58lrr n)
noncomputable def rw_58l : Nat → Option Op := fun n => cond (Nat.blt n 7) (rw_58ll n) (rw_58lr n)
noncomputable def rw_58rll : Nat → Option Op := fun n => cond (Nat.beq n 15) (some (oLoad 58 16 3 0)) (cond (Nat.beq n 16) (some (oLoad 58 18 4 0)) (none))
noncomputable def rw_58rlr : Nat → Option Op := fun n => cond (Nat.beq n 18) (some (oCall (runC 44) 58 21 2 4 0 8 hdN)) (cond (Nat.beq n 21) (some (oPush 58 22 (.int (Int32.ofInt (1))))) (cond (Nat.beq n 22) (some (oLoad 58 23 2 0)) (none)))
noncomputable def rw_58rl : Nat → Option Op := fun n => cond (Nat.blt n 18) (rw_58rll n) (rw_58rlr n)
noncomputable def rw_58rrl : Nat → Option Op := fun n => cond (Nat.beq n 23) (some (oBin sdv 58 24 6)) (cond (Nat.beq n 24) (some (oPush 58 25 (.int (Int32.ofInt (1))))) (none))
noncomputable def rw_58rrr : Nat → Option Op := fun n => cond (Nat.beq n 25) (some (oBin sdv 58 26 1)) (cond (Nat.beq n 26) (some (oBin sdv 58 27 3)) (cond (Nat.beq n 27) (some (oRet .int 0)) (none)))
noncomputable def rw_58rr : Nat → Option Op := fun n => cond (Nat.blt n 25) (rw_58rrl n) (rw_58rrr n)
noncomputable def rw_58r : Nat → Option Op := fun n => cond (Nat.blt n 23) (rw_58rl n) (rw_58rr n)
noncomputable def rw_58 : Nat → Option Op := fun n => cond (Nat.blt n 15) (rw_58l n) (rw_58r n)
noncomputable def rw_59l : Nat → Option Op := fun n => cond (Nat.beq n 0) (some (oPush 59 1 (.int (Int32.ofInt (1))))) (cond (Nat.beq n 1) (some (oPush 59 2 (.int (Int32.ofInt (1))))) (cond (Nat.beq n 2) (some (oLoad 59 3 0 0)) (cond (Nat.beq n 3) (some (oBin sdv 59 4 6)) (none))))
noncomputable def rw_59r : Nat → Option Op := fun n => cond (Nat.beq n 4) (some (oBin sdv 59 5 6)) (cond (Nat.beq n 5) (some (oPush 59 6 (.int (Int32.ofInt (1))))) (cond (Nat.beq n 6) (some (oBin sdv 59 7 1)) (cond (Nat.beq n 7) (some (oRet .int 0)) (none))))
noncomputable def rw_59 : Nat → Option Op := fun n => cond (Nat.blt n 4) (rw_59l n) (rw_59r n)
noncomputable def rw_60llll : Nat → Option Op := fun n => cond (Nat.beq n 0) (some (oLoad 60 1 0 4)) (cond (Nat.beq n 1) (some (oObj 60 4)) (cond (Nat.beq n 4) (some (oLoad 60 5 0 4)) (none)))
noncomputable def rw_60lllr : Nat → Option Op := fun n => cond (Nat.beq n 5) (some (oPush 60 7 (.int (Int32.ofInt (80))))) (cond (Nat.beq n 7) (some (oNewarr 60 9 .char 0)) (cond (Nat.beq n 9) (some (oPut 60 12 1 0 (.array .char))) (none)))
noncomputable def rw_60lll : Nat → Option Op := fun n => cond (Nat.blt n 5) (rw_60llll n) (rw_60lllr n)
noncomputable def rw_60llrl : Nat → Option Op := fun n => cond (Nat.beq n 12) (some (oLoad 60 13 0 4)) (cond (Nat.beq n 13) (some (oPush 60 15 (.int (Int32.ofInt (80))))) (cond (Nat.beq n 15) (some (oNewarr 60 17 .int 0)) (none)))
noncomputable def rw_60llrr : Nat → Option Op := fun n => cond (Nat.beq n 17) (some (oPut 60 20 1 1 (.array .int))) (cond (Nat.beq n 20) (some (oLoad 60 21 0 4)) (cond (Nat.beq n 21) (some (oPush 60 23 (.int (Int32.ofInt (80))))) (cond (Nat.beq n 23) (some (oNewarr 60 25 .int 0)) (none))))
noncomputable def rw_60llr : Nat → Option Op := fun n => cond (Nat.blt n 17) (rw_60llrl n) (rw_60llrr n)
noncomputable def rw_60ll : Nat → Option Op := fun n => cond (Nat.blt n 12) (rw_60lll n) (rw_60llr n)
noncomputable def rw_60lrll : Nat → Option Op := fun n => cond (Nat.beq n 25) (some (oPut 60 28 1 2 (.array .int))) (cond (Nat.beq n 28) (some (oLoad 60 29 0 4)) (cond (Nat.beq n 29) (some (oPush 60 31 (.int (Int32.ofInt (80))))) (none)))
noncomputable def rw_60lrlr : Nat → Option Op := fun n => cond (Nat.beq n 31) (some (oNewarr 60 33 .int 0)) (cond (Nat.beq n 33) (some (oPut 60 36 1 3 (.array .int))) (cond (Nat.beq n 36) (some (oLoad 60 37 0 4)) (none)))
noncomputable def rw_60lrl : Nat → Option Op := fun n => cond (Nat.blt n 31) (rw_60lrll n) (rw_60lrlr n)
noncomputable def rw_60lrrl : Nat → Option Op := fun n => cond (Nat.beq n 37) (some (oPush 60 39 (.int (Int32.ofInt (80))))) (cond (Nat.beq n 39) (some (oNewarr 60 41 .int 0)) (cond (Nat.beq n 41) (some (oPut 60 44 1 4 (.array .int))) (none)))
noncomputable def rw_60lrrr : Nat → Option Op := fun n => cond (Nat.beq n 44) (some (oLoad 60 45 0 4)) (cond (Nat.beq n 45) (some (oPush 60 47 (.int (Int32.ofInt (80))))) (cond (Nat.beq n 47) (some (oNewarr 60 49 .int 0)) (cond (Nat.beq n 49) (some (oPut 60 52 1 5 (.array .int))) (none))))
noncomputable def rw_60lrr : Nat → Option Op := fun n => cond (Nat.blt n 44) (rw_60lrrl n) (rw_60lrrr n)
noncomputable def rw_60lr : Nat → Option Op := fun n => cond (Nat.blt n 37) (rw_60lrl n) (rw_60lrr n)
noncomputable def rw_60l : Nat → Option Op := fun n => cond (Nat.blt n 25) (rw_60ll n) (rw_60lr n)
noncomputable def rw_60rlll : Nat → Option Op := fun n => cond (Nat.beq n 52) (some (oLoad 60 53 0 4)) (cond (Nat.beq n 53) (some (oPush 60 55 (.int (Int32.ofInt (8))))) (cond (Nat.beq n 55) (some (oNewarr 60 57 .int 0)) (none)))
noncomputable def rw_60rllr : Nat → Option Op := fun n => cond (Nat.beq n 57) (some (oPut 60 60 1 6 (.array .int))) (cond (Nat.beq n 60) (some (oLoad 60 61 0 4)) (cond (Nat.beq n 61) (some (oPush 60 62 (.int (Int32.ofInt (2))))) (none)))
noncomputable def rw_60rll : Nat → Option Op := fun n => cond (Nat.blt n 57) (rw_60rlll n) (rw_60rllr n)
noncomputable def rw_60rlrl : Nat → Option Op := fun n => cond (Nat.beq n 62) (some (oNewarr 60 64 .int 0)) (cond (Nat.beq n 64) (some (oPut 60 67 1 7 (.array .int))) (cond (Nat.beq n 67) (some (oLoad 60 68 0 4)) (none)))
noncomputable def rw_60rlrr : Nat → Option Op := fun n => cond (Nat.beq n 68) (some (oPush 60 69 (.int (Int32.ofInt (2))))) (cond (Nat.beq n 69) (some (oNewarr 60 71 .int 0)) (cond (Nat.beq n 71) (some (oPut 60 74 1 8 (.array .int))) (cond (Nat.beq n 74) (some (oLoad 60 75 0 4)) (none))))
noncomputable def rw_60rlr : Nat → Option Op := fun n => cond (Nat.blt n 68) (rw_60rlrl n) (rw_60rlrr n)
noncomputable def rw_60rl : Nat → Option Op := fun n => cond (Nat.blt n 62) (rw_60rll n) (rw_60rlr n)
noncomputable def rw_60rrll : Nat → Option Op := fun n => cond (Nat.beq n 75) (some (oPush 60 77 (.int (Int32.ofInt (14))))) (cond (Nat.beq n 77) (some (oNewarr 60 79 .int 0)) (cond (Nat.beq n 79) (some (oPut 60 82 1 9 (.array .int))) (none)))
noncomputable def rw_60rrlr : Nat → Option Op := fun n => cond (Nat.beq n 82) (some (oLoad 60 83 0 4)) (cond (Nat.beq n 83) (some (oPush 60 85 (.int (Int32.ofInt (80))))) (cond (Nat.beq n 85) (some (oNewarr 60 87 .int 0)) (cond (Nat.beq n 87) (some (oPut 60 90 1 10 (.array .int))) (none))))
noncomputable def rw_60rrl : Nat → Option Op := fun n => cond (Nat.blt n 82) (rw_60rrll n) (rw_60rrlr n)
noncomputable def rw_60rrrl : Nat → Option Op := fun n => cond (Nat.beq n 90) (some (oLoad 60 91 0 4)) (cond (Nat.beq n 91) (some (oPush 60 92 (.int (Int32.ofInt (0))))) (cond (Nat.beq n 92) (some (oPut 60 95 1 11 .int)) (none)))
noncomputable def rw_60rrrr : Nat → Option Op := fun n => cond (Nat.beq n 95) (some (oLoad 60 96 0 4)) (cond (Nat.beq n 96) (some (oPush 60 97 (.int (Int32.ofInt (0))))) (cond (Nat.beq n 97) (some (oPut 60 100 1 12 .int)) (cond (Nat.beq n 100) (some (oRet0)) (none))))
noncomputable def rw_60rrr : Nat → Option Op := fun n => cond (Nat.blt n 95) (rw_60rrrl n) (rw_60rrrr n)
noncomputable def rw_60rr : Nat → Option Op := fun n => cond (Nat.blt n 90) (rw_60rrl n) (rw_60rrr n)
noncomputable def rw_60r : Nat → Option Op := fun n => cond (Nat.blt n 75) (rw_60rl n) (rw_60rr n)
noncomputable def rw_60 : Nat → Option Op := fun n => cond (Nat.blt n 52) (rw_60l n) (rw_60r n)
noncomputable def rw_61lll : Nat → Option Op := fun n => cond (Nat.beq n 0) (some (oLoad 61 1 0 4)) (cond (Nat.beq n 1) (some (oGet 61 4 1 4)) (cond (Nat.beq n 4) (some (oLoad 61 5 0 4)) (none)))
noncomputable def rw_61llr : Nat → Option Op := fun n => cond (Nat.beq n 5) (some (oGet 61 8 1 11)) (cond (Nat.beq n 8) (some (oLoad 61 9 2 0)) (cond (Nat.beq n 9) (some (oCall (runC 47) 61 12 4 3 0 3 hdN)) (cond (Nat.beq n 12) (some (oLoad 61 13 0 4)) (none))))
noncomputable def rw_61ll : Nat → Option Op := fun n => cond (Nat.blt n 5) (rw_61lll n) (rw_61llr n)
noncomputable def rw_61lrl : Nat → Option Op := fun n => cond (Nat.beq n 13) (some (oGet 61 16 1 5)) (cond (Nat.beq n 16) (some (oLoad 61 17 0 4)) (cond (Nat.beq n 17) (some (oGet 61 20 1 11)) (none)))
noncomputable def rw_61lrr : Nat → Option Op := fun n => cond (Nat.beq n 20) (some (oLoad 61 21 3 0)) (cond (Nat.beq n 21) (some (oCall (runC 47) 61 24 4 3 0 3 hdN)) (cond (Nat.beq n 24) (some (oLoad 61 25 0 4)) (cond (Nat.beq n 25) (some (oGet 61 28 1 8)) (none))))
noncomputable def rw_61lr : Nat → Option Op := fun n => cond (Nat.blt n 20) (rw_61lrl n) (rw_61lrr n)
noncomputable def rw_61l : Nat → Option Op := fun n => cond (Nat.blt n 13) (rw_61ll n) (rw_61lr n)
noncomputable def rw_61rll : Nat → Option Op := fun n => cond (Nat.beq n 28) (some (oLoad 61 29 1 0)) (cond (Nat.beq n 29) (some (oLoad 61 30 0 4)) (cond (Nat.beq n 30) (some (oLoad 61 31 1 0)) (none)))
noncomputable def rw_61rlr : Nat → Option Op := fun n => cond (Nat.beq n 31) (some (oCall (runC 66) 61 34 2 2 1 2 hdN)) (cond (Nat.beq n 34) (some (oPush 61 35 (.int (Int32.ofInt (1))))) (cond (Nat.beq n 35) (some (oBin sdv 61 36 0)) (cond (Nat.beq n 36) (some (oCall (runC 47) 61 39 4 3 0 3 hdN)) (none))))
noncomputable def rw_61rl : Nat → Option Op := fun n => cond (Nat.blt n 31) (rw_61rll n) (rw_61rlr n)
noncomputable def rw_61rrl : Nat → Option Op := fun n => cond (Nat.beq n 39) (some (oLoad 61 40 0 4)) (cond (Nat.beq n 40) (some (oLoad 61 41 1 0)) (cond (Nat.beq n 41) (some (oPush 61 43 (.int (Int32.ofInt (99))))) (none)))
noncomputable def rw_61rrr : Nat → Option Op := fun n => cond (Nat.beq n 43) (some (oPush 61 44 (.int (Int32.ofInt (-1))))) (cond (Nat.beq n 44) (some (oPush 61 45 (.int (Int32.ofInt (-1))))) (cond (Nat.beq n 45) (some (oCall (runC 63) 61 48 2 5 1 6 hdN)) (cond (Nat.beq n 48) (some (oRet .int 0)) (none))))
noncomputable def rw_61rr : Nat → Option Op := fun n => cond (Nat.blt n 43) (rw_61rrl n) (rw_61rrr n)
noncomputable def rw_61r : Nat → Option Op := fun n => cond (Nat.blt n 39) (rw_61rl n) (rw_61rr n)
noncomputable def rw_61 : Nat → Option Op := fun n => cond (Nat.blt n 28) (rw_61l n) (rw_61r n)
noncomputable def rw_62ll : Nat → Option Op := fun n => cond (Nat.beq n 0) (some (oLoad 62 1 0 4)) (cond (Nat.beq n 1) (some (oDup 62 2)) (cond (Nat.beq n 2) (some (oGet 62 5 1 12)) (none)))
noncomputable def rw_62lr : Nat → Option Op := fun n => cond (Nat.beq n 5) (some (oPush 62 6 (.int (Int32.ofInt (1))))) (cond (Nat.beq n 6) (some (oBin sdv 62 7 0)) (cond (Nat.beq n 7) (some (oPut 62 10 1 12 .int)) (none)))
noncomputable def rw_62l : Nat → Option Op := fun n => cond (Nat.blt n 5) (rw_62ll n) (rw_62lr n)
noncomputable def rw_62rl : Nat → Option Op := fun n => cond (Nat.beq n 10) (some (oLoad 62 11 0 4)) (cond (Nat.beq n 11) (some (oPush 62 12 (.int (Int32.ofInt (2))))) (cond (Nat.beq n 12) (some (oPush 62 14 (.int (Int32.ofInt (105))))) (none)))
noncomputable def rw_62rr : Nat → Option Op := fun n => cond (Nat.beq n 14) (some (oPush 62 15 (.int (Int32.ofInt (-1))))) (cond (Nat.beq n 15) (some (oPush 62 16 (.int (Int32.ofInt (-1))))) (cond (Nat.beq n 16) (some (oCall (runC 63) 62 19 2 5 1 6 hdN)) (cond (Nat.beq n 19) (some (oRet .int 0)) (none))))
noncomputable def rw_62r : Nat → Option Op := fun n => cond (Nat.blt n 14) (rw_62rl n) (rw_62rr n)
noncomputable def rw_62 : Nat → Option Op := fun n => cond (Nat.blt n 10) (rw_62l n) (rw_62r n)
noncomputable def rw_63lll : Nat → Option Op := fun n => cond (Nat.beq n 0) (some (oLoad 63 1 0 4)) (cond (Nat.beq n 1) (some (oGet 63 4 1 11)) (cond (Nat.beq n 4) (some (oStore 63 6 5 0)) (cond (Nat.beq n 6) (some (oLoad 63 8 5 0)) (none))))
noncomputable def rw_63llr : Nat → Option Op := fun n => cond (Nat.beq n 8) (some (oLoad 63 9 0 4)) (cond (Nat.beq n 9) (some (oGet 63 12 1 0)) (cond (Nat.beq n 12) (some (oLen slen 63 13)) (cond (Nat.beq n 13) (some (oCmp2 63 16 24 .ge)) (none))))
noncomputable def rw_63ll : Nat → Option Op := fun n => cond (Nat.blt n 8) (rw_63lll n) (rw_63llr n)
noncomputable def rw_63lrl : Nat → Option Op := fun n => cond (Nat.beq n 16) (some (oLoad 63 17 0 4)) (cond (Nat.beq n 17) (some (oGet 63 20 1 0)) (cond (Nat.beq n 20) (some (oLoad 63 22 5 0)) (cond (Nat.beq n 22) (some (oLoad 63 23 2 0)) (none))))
noncomputable def rw_63lrrl : Nat → Option Op := fun n => cond (Nat.beq n 23) (some (oCast2 63 24)) (cond (Nat.beq n 24) (some (oLoad 63 25 0 4)) (none))
noncomputable def rw_63lrrr : Nat → Option Op := fun n => cond (Nat.beq n 25) (some (oGet 63 28 1 1)) (cond (Nat.beq n 28) (some (oLoad 63 30 5 0)) (cond (Nat.beq n 30) (some (oLoad 63 31 1 0)) (none)))
noncomputable def rw_63lrr : Nat → Option Op := fun n => cond (Nat.blt n 25) (rw_63lrrl n) (rw_63lrrr n)
noncomputable def rw_63lr : Nat → Option Op := fun n => cond (Nat.blt n 23) (rw_63lrl n) (rw_63lrr n)
noncomputable def rw_63l : Nat → Option Op := fun n => cond (Nat.blt n 16) (rw_63ll n) (rw_63lr n)
noncomputable def rw_63rll : Nat → Option Op := fun n => cond (Nat.beq n 31) (some (oCall (runC 47) 63 34 4 3 0 3 hdN)) (cond (Nat.beq n 34) (some (oLoad 63 35 0 4)) (cond (Nat.beq n 35) (some (oGet 63 38 1 2)) (cond (Nat.beq n 38) (some (oLoad 63 40 5 0)) (none))))
noncomputable def rw_63rlrl : Nat → Option Op := fun n => cond (Nat.beq n 40) (some (oLoad 63 41 3 0)) (cond (Nat.beq n 41) (some (oCall (runC 47) 63 44 4 3 0 3 hdN)) (none))
noncomputable def rw_63rlrr : Nat → Option Op := fun n => cond (Nat.beq n 44) (some (oLoad 63 45 0 4)) (cond (Nat.beq n 45) (some (oGet 63 48 1 3)) (cond (Nat.beq n 48) (some (oLoad 63 50 5 0)) (none)))
noncomputable def rw_63rlr : Nat → Option Op := fun n => cond (Nat.blt n 44) (rw_63rlrl n) (rw_63rlrr n)
noncomputable def rw_63rl : Nat → Option Op := fun n => cond (Nat.blt n 40) (rw_63rll n) (rw_63rlr n)
noncomputable def rw_63rrl : Nat → Option Op := fun n => cond (Nat.beq n 50) (some (oLoad 63 52 4 0)) (cond (Nat.beq n 52) (some (oCall (runC 47) 63 55 4 3 0 3 hdN)) (cond (Nat.beq n 55) (some (oLoad 63 56 0 4)) (cond (Nat.beq n 56) (some (oLoad 63 58 5 0)) (none))))
noncomputable def rw_63rrrl : Nat → Option Op := fun n => cond (Nat.beq n 58) (some (oPush 63 59 (.int (Int32.ofInt (1))))) (cond (Nat.beq n 59) (some (oBin sdv 63 60 0)) (none))
noncomputable def rw_63rrrr : Nat → Option Op := fun n => cond (Nat.beq n 60) (some (oPut 63 63 1 11 .int)) (cond (Nat.beq n 63) (some (oLoad 63 65 5 0)) (cond (Nat.beq n 65) (some (oRet .int 0)) (none)))
noncomputable def rw_63rrr : Nat → Option Op := fun n => cond (Nat.blt n 60) (rw_63rrrl n) (rw_63rrrr n)
noncomputable def rw_63rr : Nat → Option Op := fun n => cond (Nat.blt n 58) (rw_63rrl n) (rw_63rrr n)
noncomputable def rw_63r : Nat → Option Op := fun n => cond (Nat.blt n 50) (rw_63rl n) (rw_63rr n)
noncomputable def rw_63 : Nat → Option Op := fun n => cond (Nat.blt n 31) (rw_63l n) (rw_63r n)
noncomputable def rw_64lll : Nat → Option Op := fun n => cond (Nat.beq n 0) (some (oPush 64 1 (.int (Int32.ofInt (0))))) (cond (Nat.beq n 1) (some (oStore 64 2 1 0)) (none))
noncomputable def rw_64llr : Nat → Option Op := fun n => cond (Nat.beq n 2) (some (oLoad 64 3 1 0)) (cond (Nat.beq n 3) (some (oLoad 64 4 0 4)) (cond (Nat.beq n 4) (some (oGet 64 7 1 11)) (none)))
noncomputable def rw_64ll : Nat → Option Op := fun n => cond (Nat.blt n 2) (rw_64lll n) (rw_64llr n)
noncomputable def rw_64lrl : Nat → Option Op := fun n => cond (Nat.beq n 7) (some (oCmp2 64 10 34 .ge)) (cond (Nat.beq n 34) (some (oLoad 64 35 0 4)) (none))
noncomputable def rw_64lrr : Nat → Option Op := fun n => cond (Nat.beq n 35) (some (oPush 64 36 (.int (Int32.ofInt (0))))) (cond (Nat.beq n 36) (some (oCall (runC 68) 64 39 2 2 1 2 hdN)) (cond (Nat.beq n 39) (some (oLoad 64 40 0 4)) (none)))
noncomputable def rw_64lr : Nat → Option Op := fun n => cond (Nat.blt n 35) (rw_64lrl n) (rw_64lrr n)
noncomputable def rw_64l : Nat → Option Op := fun n => cond (Nat.blt n 7) (rw_64ll n) (rw_64lr n)
noncomputable def rw_64rll : Nat → Option Op := fun n => cond (Nat.beq n 40) (some (oPush 64 41 (.int (Int32.ofInt (1))))) (cond (Nat.beq n 41) (some (oCall (runC 68) 64 44 2 2 1 2 hdN)) (none))
noncomputable def rw_64rlr : Nat → Option Op := fun n => cond (Nat.beq n 44) (some (oCmp2 64 47 60 .ne)) (cond (Nat.beq n 47) (some (oLoad 64 48 0 4)) (cond (Nat.beq n 48) (some (oPush 64 49 (.int (Int32.ofInt (0))))) (none)))
noncomputable def rw_64rl : Nat → Option Op := fun n => cond (Nat.blt n 44) (rw_64rll n) (rw_64rlr n)
noncomputable def rw_64rrl : Nat → Option Op := fun n => cond (Nat.beq n 49) (some (oCall (runC 68) 64 52 2 2 1 2 hdN)) (cond (Nat.beq n 52) (some (oPush 64 53 (.int (Int32.ofInt (1))))) (none))
noncomputable def rw_64rrr : Nat → Option Op := fun n => cond (Nat.beq n 53) (some (oCmp2 64 56 60 .lt)) (cond (Nat.beq n 60) (some (oPush 64 61 (.int (Int32.ofInt (0))))) (cond (Nat.beq n 61) (some (oRet .boolean 0)) (none)))
noncomputable def rw_64rr : Nat → Option Op := fun n => cond (Nat.blt n 53) (rw_64rrl n) (rw_64rrr n)
noncomputable def rw_64r : Nat → Option Op := fun n => cond (Nat.blt n 49) (rw_64rl n) (rw_64rr n)
noncomputable def rw_64 : Nat → Option Op := fun n => cond (Nat.blt n 40) (rw_64l n) (rw_64r n)
noncomputable def rw_65l : Nat → Option Op := fun n => cond (Nat.beq n 0) (some (oPush 65 1 (.int (Int32.ofInt (0))))) (cond (Nat.beq n 1) (some (oStore 65 2 3 0)) (cond (Nat.beq n 2) (some (oLoad 65 3 3 0)) (cond (Nat.beq n 3) (some (oLoad 65 4 0 4)) (none))))
noncomputable def rw_65r : Nat → Option Op := fun n => cond (Nat.beq n 4) (some (oGet 65 7 1 11)) (cond (Nat.beq n 7) (some (oCmp2 65 10 44 .ge)) (cond (Nat.beq n 44) (some (oPush 65 45 (.int (Int32.ofInt (-1))))) (cond (Nat.beq n 45) (some (oRet .int 0)) (none))))
noncomputable def rw_65 : Nat → Option Op := fun n => cond (Nat.blt n 4) (rw_65l n) (rw_65r n)
noncomputable def rw_66l : Nat → Option Op := fun n => cond (Nat.beq n 0) (some (oLoad 66 1 0 4)) (cond (Nat.beq n 1) (some (oGet 66 4 1 8)) (none))
noncomputable def rw_66r : Nat → Option Op := fun n => cond (Nat.beq n 4) (some (oLoad 66 5 1 0)) (cond (Nat.beq n 5) (some (oCall (runC 36) 66 8 4 2 0 2 hdN)) (cond (Nat.beq n 8) (some (oRet .int 0)) (none)))
noncomputable def rw_66 : Nat → Option Op := fun n => cond (Nat.blt n 4) (rw_66l n) (rw_66r n)
noncomputable def rw_67l : Nat → Option Op := fun n => cond (Nat.beq n 0) (some (oLoad 67 1 1 0)) (cond (Nat.beq n 1) (some (oCmp1 67 4 16 .lt)) (cond (Nat.beq n 4) (some (oLoad 67 5 1 0)) (cond (Nat.beq n 5) (some (oLoad 67 6 0 4)) (none))))
noncomputable def rw_67r : Nat → Option Op := fun n => cond (Nat.beq n 6) (some (oGet 67 9 1 11)) (cond (Nat.beq n 9) (some (oCmp2 67 12 16 .ge)) (cond (Nat.beq n 16) (some (oPush 67 17 (.int (Int32.ofInt (0))))) (cond (Nat.beq n 17) (some (oRet .boolean 0)) (none))))
noncomputable def rw_67 : Nat → Option Op := fun n => cond (Nat.blt n 6) (rw_67l n) (rw_67r n)
noncomputable def rw_68l : Nat → Option Op := fun n => cond (Nat.beq n 0) (some (oLoad 68 1 0 4)) (cond (Nat.beq n 1) (some (oGet 68 4 1 7)) (none))
noncomputable def rw_68r : Nat → Option Op := fun n => cond (Nat.beq n 4) (some (oLoad 68 5 1 0)) (cond (Nat.beq n 5) (some (oCall (runC 36) 68 8 4 2 0 2 hdN)) (cond (Nat.beq n 8) (some (oRet .int 0)) (none)))
noncomputable def rw_68 : Nat → Option Op := fun n => cond (Nat.blt n 4) (rw_68l n) (rw_68r n)
noncomputable def rw_69ll : Nat → Option Op := fun n => cond (Nat.beq n 0) (some (oLoad 69 1 0 4)) (cond (Nat.beq n 1) (some (oGet 69 4 1 12)) (none))
noncomputable def rw_69lr : Nat → Option Op := fun n => cond (Nat.beq n 4) (some (oLoad 69 5 0 4)) (cond (Nat.beq n 5) (some (oPush 69 6 (.int (Int32.ofInt (0))))) (cond (Nat.beq n 6) (some (oCall (runC 66) 69 9 2 2 1 2 hdN)) (none)))
noncomputable def rw_69l : Nat → Option Op := fun n => cond (Nat.blt n 4) (rw_69ll n) (rw_69lr n)
noncomputable def rw_69rl : Nat → Option Op := fun n => cond (Nat.beq n 9) (some (oBin sdv 69 10 0)) (cond (Nat.beq n 10) (some (oLoad 69 11 0 4)) (cond (Nat.beq n 11) (some (oPush 69 12 (.int (Int32.ofInt (1))))) (none)))
noncomputable def rw_69rr : Nat → Option Op := fun n => cond (Nat.beq n 12) (some (oCall (runC 66) 69 15 2 2 1 2 hdN)) (cond (Nat.beq n 15) (some (oBin sdv 69 16 0)) (cond (Nat.beq n 16) (some (oRet .int 0)) (none)))
noncomputable def rw_69r : Nat → Option Op := fun n => cond (Nat.blt n 12) (rw_69rl n) (rw_69rr n)
noncomputable def rw_69 : Nat → Option Op := fun n => cond (Nat.blt n 9) (rw_69l n) (rw_69r n)
noncomputable def rw_70l : Nat → Option Op := fun n => cond (Nat.beq n 0) (some (oLoad 70 1 1 4)) (cond (Nat.beq n 1) (some (oPush 70 2 (.int (Int32.ofInt (0))))) (cond (Nat.beq n 2) (some (oLoad 70 3 0 4)) (none)))
noncomputable def rw_70r : Nat → Option Op := fun n => cond (Nat.beq n 3) (some (oCall (runC 1) 70 6 2 1 0 1 (hdT (some 11) none none none))) (cond (Nat.beq n 11) (some (oStore 70 12 2 4)) (cond (Nat.beq n 12) (some (oPush 70 13 (.int (Int32.ofInt (1))))) (cond (Nat.beq n 13) (some (oRet .int 0)) (none))))
noncomputable def rw_70 : Nat → Option Op := fun n => cond (Nat.blt n 3) (rw_70l n) (rw_70r n)
noncomputable def rw_71l : Nat → Option Op := fun n => cond (Nat.beq n 0) (some (oLoad 71 1 1 4)) (cond (Nat.beq n 1) (some (oPush 71 2 (.int (Int32.ofInt (0))))) (cond (Nat.beq n 2) (some (oLoad 71 3 0 4)) (none)))
noncomputable def rw_71r : Nat → Option Op := fun n => cond (Nat.beq n 3) (some (oCall (runC 2) 71 6 2 1 0 1 (hdT (some 11) none none none))) (cond (Nat.beq n 11) (some (oStore 71 12 2 4)) (cond (Nat.beq n 12) (some (oPush 71 13 (.int (Int32.ofInt (1))))) (cond (Nat.beq n 13) (some (oRet .int 0)) (none))))
noncomputable def rw_71 : Nat → Option Op := fun n => cond (Nat.blt n 3) (rw_71l n) (rw_71r n)
noncomputable def rw_72ll : Nat → Option Op := fun n => cond (Nat.beq n 0) (some (oLoad 72 1 2 4)) (cond (Nat.beq n 1) (some (oPush 72 2 (.int (Int32.ofInt (0))))) (cond (Nat.beq n 2) (some (oLoad 72 3 0 4)) (none)))
noncomputable def rw_72lr : Nat → Option Op := fun n => cond (Nat.beq n 3) (some (oLoad 72 4 1 0)) (cond (Nat.beq n 4) (some (oCall (runC 3) 72 7 2 2 0 5 (hdT none none (some 19) none))) (cond (Nat.beq n 7) (some (oCmp1 72 10 14 .eq)) (cond (Nat.beq n 10) (some (oPush 72 11 (.long (Int64.ofNat 1)))) (none))))
noncomputable def rw_72l : Nat → Option Op := fun n => cond (Nat.blt n 3) (rw_72ll n) (rw_72lr n)
noncomputable def rw_72rl : Nat → Option Op := fun n => cond (Nat.beq n 11) (some (oGoto 72 15)) (cond (Nat.beq n 15) (some (oLast 72 16)) (cond (Nat.beq n 16) (some (oGoto 72 22)) (cond (Nat.beq n 19) (some (oStore 72 20 3 4)) (none))))
noncomputable def rw_72rr : Nat → Option Op := fun n => cond (Nat.beq n 20) (some (oPush 72 21 (.int (Int32.ofInt (1))))) (cond (Nat.beq n 21) (some (oRet .int 0)) (cond (Nat.beq n 22) (some (oPush 72 23 (.int (Int32.ofInt (0))))) (cond (Nat.beq n 23) (some (oRet .int 0)) (none))))
noncomputable def rw_72r : Nat → Option Op := fun n => cond (Nat.blt n 20) (rw_72rl n) (rw_72rr n)
noncomputable def rw_72 : Nat → Option Op := fun n => cond (Nat.blt n 11) (rw_72l n) (rw_72r n)
noncomputable def rw_73l : Nat → Option Op := fun n => cond (Nat.beq n 0) (some (oLoad 73 1 2 4)) (cond (Nat.beq n 1) (some (oPush 73 2 (.int (Int32.ofInt (0))))) (cond (Nat.beq n 2) (some (oLoad 73 3 0 4)) (cond (Nat.beq n 3) (some (oLoad 73 4 1 0)) (none))))
noncomputable def rw_73r : Nat → Option Op := fun n => cond (Nat.beq n 4) (some (oCall (runC 4) 73 7 2 2 0 2 (hdT (some 15) (some 12) none none))) (cond (Nat.beq n 12) (some (oStore 73 13 3 4)) (cond (Nat.beq n 13) (some (oPush 73 14 (.int (Int32.ofInt (1))))) (cond (Nat.beq n 14) (some (oRet .int 0)) (none))))
noncomputable def rw_73 : Nat → Option Op := fun n => cond (Nat.blt n 4) (rw_73l n) (rw_73r n)
noncomputable def rw_74ll : Nat → Option Op := fun n => cond (Nat.beq n 0) (some (oLoad 74 2 4 4)) (cond (Nat.beq n 2) (some (oPush 74 3 (.int (Int32.ofInt (0))))) (cond (Nat.beq n 3) (some (oLoad 74 4 0 4)) (none)))
noncomputable def rw_74lr : Nat → Option Op := fun n => cond (Nat.beq n 4) (some (oLoad 74 5 1 0)) (cond (Nat.beq n 5) (some (oLoad 74 6 2 0)) (cond (Nat.beq n 6) (some (oLoad 74 7 3 0)) (cond (Nat.beq n 7) (some (oCall (runC 5) 74 10 2 4 0 4 (hdT (some 19) none (some 15) none))) (none))))
noncomputable def rw_74l : Nat → Option Op := fun n => cond (Nat.blt n 4) (rw_74ll n) (rw_74lr n)
noncomputable def rw_74rl : Nat → Option Op := fun n => cond (Nat.beq n 10) (some (oI2l 74 11)) (cond (Nat.beq n 11) (some (oLast 74 12)) (cond (Nat.beq n 12) (some (oGoto 74 27)) (cond (Nat.beq n 15) (some (oStore 74 17 5 4)) (none))))
noncomputable def rw_74rr : Nat → Option Op := fun n => cond (Nat.beq n 17) (some (oPush 74 18 (.int (Int32.ofInt (1))))) (cond (Nat.beq n 18) (some (oRet .int 0)) (cond (Nat.beq n 27) (some (oPush 74 28 (.int (Int32.ofInt (0))))) (cond (Nat.beq n 28) (some (oRet .int 0)) (none))))
noncomputable def rw_74r : Nat → Option Op := fun n => cond (Nat.blt n 17) (rw_74rl n) (rw_74rr n)
noncomputable def rw_74 : Nat → Option Op := fun n => cond (Nat.blt n 10) (rw_74l n) (rw_74r n)
noncomputable def rw_75l : Nat → Option Op := fun n => cond (Nat.beq n 0) (some (oLoad 75 1 1 4)) (cond (Nat.beq n 1) (some (oPush 75 2 (.int (Int32.ofInt (0))))) (cond (Nat.beq n 2) (some (oLoad 75 3 0 4)) (none)))
noncomputable def rw_75r : Nat → Option Op := fun n => cond (Nat.beq n 3) (some (oCall (runC 6) 75 6 2 1 0 1 (hdT (some 11) none none none))) (cond (Nat.beq n 11) (some (oStore 75 12 2 4)) (cond (Nat.beq n 12) (some (oPush 75 13 (.int (Int32.ofInt (1))))) (cond (Nat.beq n 13) (some (oRet .int 0)) (none))))
noncomputable def rw_75 : Nat → Option Op := fun n => cond (Nat.blt n 3) (rw_75l n) (rw_75r n)
noncomputable def rw_76l : Nat → Option Op := fun n => cond (Nat.beq n 0) (some (oLoad 76 1 1 4)) (cond (Nat.beq n 1) (some (oPush 76 2 (.int (Int32.ofInt (0))))) (cond (Nat.beq n 2) (some (oLoad 76 3 0 4)) (none)))
noncomputable def rw_76r : Nat → Option Op := fun n => cond (Nat.beq n 3) (some (oCall (runC 7) 76 6 2 1 0 2 (hdT (some 11) none none none))) (cond (Nat.beq n 11) (some (oStore 76 12 2 4)) (cond (Nat.beq n 12) (some (oPush 76 13 (.int (Int32.ofInt (1))))) (cond (Nat.beq n 13) (some (oRet .int 0)) (none))))
noncomputable def rw_76 : Nat → Option Op := fun n => cond (Nat.blt n 3) (rw_76l n) (rw_76r n)
noncomputable def rw_77ll : Nat → Option Op := fun n => cond (Nat.beq n 0) (some (oLoad 77 2 5 4)) (cond (Nat.beq n 2) (some (oPush 77 3 (.int (Int32.ofInt (0))))) (cond (Nat.beq n 3) (some (oLoad 77 4 0 4)) (cond (Nat.beq n 4) (some (oLoad 77 5 1 0)) (none))))
noncomputable def rw_77lr : Nat → Option Op := fun n => cond (Nat.beq n 5) (some (oLoad 77 6 2 0)) (cond (Nat.beq n 6) (some (oLoad 77 7 3 0)) (cond (Nat.beq n 7) (some (oLoad 77 9 4 0)) (cond (Nat.beq n 9) (some (oCall (runC 8) 77 12 2 5 0 7 (hdT none none (some 17) none))) (none))))
noncomputable def rw_77l : Nat → Option Op := fun n => cond (Nat.blt n 5) (rw_77ll n) (rw_77lr n)
noncomputable def rw_77rl : Nat → Option Op := fun n => cond (Nat.beq n 12) (some (oI2l 77 13)) (cond (Nat.beq n 13) (some (oLast 77 14)) (cond (Nat.beq n 14) (some (oGoto 77 21)) (cond (Nat.beq n 17) (some (oStore 77 19 6 4)) (none))))
noncomputable def rw_77rr : Nat → Option Op := fun n => cond (Nat.beq n 19) (some (oPush 77 20 (.int (Int32.ofInt (1))))) (cond (Nat.beq n 20) (some (oRet .int 0)) (cond (Nat.beq n 21) (some (oPush 77 22 (.int (Int32.ofInt (0))))) (cond (Nat.beq n 22) (some (oRet .int 0)) (none))))
noncomputable def rw_77r : Nat → Option Op := fun n => cond (Nat.blt n 19) (rw_77rl n) (rw_77rr n)
noncomputable def rw_77 : Nat → Option Op := fun n => cond (Nat.blt n 12) (rw_77l n) (rw_77r n)
noncomputable def rw_78l : Nat → Option Op := fun n => cond (Nat.beq n 0) (some (oLoad 78 1 2 4)) (cond (Nat.beq n 1) (some (oPush 78 2 (.int (Int32.ofInt (0))))) (cond (Nat.beq n 2) (some (oLoad 78 3 0 4)) (cond (Nat.beq n 3) (some (oLoad 78 4 1 0)) (none))))
noncomputable def rw_78r : Nat → Option Op := fun n => cond (Nat.beq n 4) (some (oCall (runC 9) 78 7 2 2 0 3 (hdT (some 15) (some 12) none none))) (cond (Nat.beq n 12) (some (oStore 78 13 3 4)) (cond (Nat.beq n 13) (some (oPush 78 14 (.int (Int32.ofInt (1))))) (cond (Nat.beq n 14) (some (oRet .int 0)) (none))))
noncomputable def rw_78 : Nat → Option Op := fun n => cond (Nat.blt n 4) (rw_78l n) (rw_78r n)
noncomputable def rw_79ll : Nat → Option Op := fun n => cond (Nat.beq n 0) (some (oLoad 79 2 4 4)) (cond (Nat.beq n 2) (some (oPush 79 3 (.int (Int32.ofInt (0))))) (none))
noncomputable def rw_79lr : Nat → Option Op := fun n => cond (Nat.beq n 3) (some (oLoad 79 4 0 4)) (cond (Nat.beq n 4) (some (oLoad 79 5 1 0)) (cond (Nat.beq n 5) (some (oLoad 79 6 2 0)) (none)))
noncomputable def rw_79l : Nat → Option Op := fun n => cond (Nat.blt n 3) (rw_79ll n) (rw_79lr n)
noncomputable def rw_79rl : Nat → Option Op := fun n => cond (Nat.beq n 6) (some (oLoad 79 7 3 0)) (cond (Nat.beq n 7) (some (oCall (runC 10) 79 10 2 4 0 5 (hdT (some 26) (some 22) none none))) (none))
noncomputable def rw_79rr : Nat → Option Op := fun n => cond (Nat.beq n 22) (some (oStore 79 24 5 4)) (cond (Nat.beq n 24) (some (oPush 79 25 (.int (Int32.ofInt (1))))) (cond (Nat.beq n 25) (some (oRet .int 0)) (none)))
noncomputable def rw_79r : Nat → Option Op := fun n => cond (Nat.blt n 22) (rw_79rl n) (rw_79rr n)
noncomputable def rw_79 : Nat → Option Op := fun n => cond (Nat.blt n 6) (rw_79l n) (rw_79r n)
noncomputable def rw_80ll : Nat → Option Op := fun n => cond (Nat.beq n 0) (some (oLoad 80 2 5 4)) (cond (Nat.beq n 2) (some (oPush 80 3 (.int (Int32.ofInt (0))))) (none))
noncomputable def rw_80lr : Nat → Option Op := fun n => cond (Nat.beq n 3) (some (oLoad 80 4 0 4)) (cond (Nat.beq n 4) (some (oLoad 80 5 1 0)) (cond (Nat.beq n 5) (some (oLoad 80 6 2 0)) (none)))
noncomputable def rw_80l : Nat → Option Op := fun n => cond (Nat.blt n 3) (rw_80ll n) (rw_80lr n)
noncomputable def rw_80rl : Nat → Option Op := fun n => cond (Nat.beq n 6) (some (oLoad 80 7 3 0)) (cond (Nat.beq n 7) (some (oLoad 80 9 4 0)) (cond (Nat.beq n 9) (some (oCall (runC 11) 80 12 2 5 0 9 (hdT (some 25) (some 17) (some 21) none))) (none)))
noncomputable def rw_80rr : Nat → Option Op := fun n => cond (Nat.beq n 17) (some (oStore 80 19 6 4)) (cond (Nat.beq n 19) (some (oPush 80 20 (.int (Int32.ofInt (1))))) (cond (Nat.beq n 20) (some (oRet .int 0)) (none)))
noncomputable def rw_80r : Nat → Option Op := fun n => cond (Nat.blt n 17) (rw_80rl n) (rw_80rr n)
noncomputable def rw_80 : Nat → Option Op := fun n => cond (Nat.blt n 6) (rw_80l n) (rw_80r n)
noncomputable def rw_81l : Nat → Option Op := fun n => cond (Nat.beq n 0) (some (oLoad 81 1 3 4)) (cond (Nat.beq n 1) (some (oPush 81 2 (.int (Int32.ofInt (0))))) (cond (Nat.beq n 2) (some (oLoad 81 3 0 4)) (cond (Nat.beq n 3) (some (oLoad 81 4 1 0)) (none))))
noncomputable def rw_81rl : Nat → Option Op := fun n => cond (Nat.beq n 4) (some (oLoad 81 5 2 0)) (cond (Nat.beq n 5) (some (oCall (runC 12) 81 8 2 3 0 3 (hdT (some 21) (some 13) (some 17) none))) (none))
noncomputable def rw_81rr : Nat → Option Op := fun n => cond (Nat.beq n 13) (some (oStore 81 15 4 4)) (cond (Nat.beq n 15) (some (oPush 81 16 (.int (Int32.ofInt (1))))) (cond (Nat.beq n 16) (some (oRet .int 0)) (none)))
noncomputable def rw_81r : Nat → Option Op := fun n => cond (Nat.blt n 13) (rw_81rl n) (rw_81rr n)
noncomputable def rw_81 : Nat → Option Op := fun n => cond (Nat.blt n 4) (rw_81l n) (rw_81r n)
noncomputable def rw_82l : Nat → Option Op := fun n => cond (Nat.beq n 0) (some (oLoad 82 1 3 4)) (cond (Nat.beq n 1) (some (oPush 82 2 (.int (Int32.ofInt (0))))) (cond (Nat.beq n 2) (some (oLoad 82 3 0 4)) (cond (Nat.beq n 3) (some (oLoad 82 4 1 0)) (none))))
noncomputable def rw_82rl : Nat → Option Op := fun n => cond (Nat.beq n 4) (some (oLoad 82 5 2 0)) (cond (Nat.beq n 5) (some (oCall (runC 13) 82 8 2 3 0 3 (hdT (some 17) (some 13) none none))) (none))
noncomputable def rw_82rr : Nat → Option Op := fun n => cond (Nat.beq n 13) (some (oStore 82 15 4 4)) (cond (Nat.beq n 15) (some (oPush 82 16 (.int (Int32.ofInt (1))))) (cond (Nat.beq n 16) (some (oRet .int 0)) (none)))
noncomputable def rw_82r : Nat → Option Op := fun n => cond (Nat.blt n 13) (rw_82rl n) (rw_82rr n)
noncomputable def rw_82 : Nat → Option Op := fun n => cond (Nat.blt n 4) (rw_82l n) (rw_82r n)
noncomputable def rw_83l : Nat → Option Op := fun n => cond (Nat.beq n 0) (some (oLoad 83 1 3 4)) (cond (Nat.beq n 1) (some (oPush 83 2 (.int (Int32.ofInt (0))))) (cond (Nat.beq n 2) (some (oLoad 83 3 0 4)) (cond (Nat.beq n 3) (some (oLoad 83 4 1 0)) (none))))
noncomputable def rw_83rl : Nat → Option Op := fun n => cond (Nat.beq n 4) (some (oLoad 83 5 2 0)) (cond (Nat.beq n 5) (some (oCall (runC 14) 83 8 2 3 0 4 (hdT (some 21) (some 13) (some 17) none))) (none))
noncomputable def rw_83rr : Nat → Option Op := fun n => cond (Nat.beq n 13) (some (oStore 83 15 4 4)) (cond (Nat.beq n 15) (some (oPush 83 16 (.int (Int32.ofInt (1))))) (cond (Nat.beq n 16) (some (oRet .int 0)) (none)))
noncomputable def rw_83r : Nat → Option Op := fun n => cond (Nat.blt n 13) (rw_83rl n) (rw_83rr n)
noncomputable def rw_83 : Nat → Option Op := fun n => cond (Nat.blt n 4) (rw_83l n) (rw_83r n)
noncomputable def rw_84l : Nat → Option Op := fun n => cond (Nat.beq n 0) (some (oLoad 84 1 1 4)) (cond (Nat.beq n 1) (some (oPush 84 2 (.int (Int32.ofInt (0))))) (cond (Nat.beq n 2) (some (oLoad 84 3 0 4)) (none)))
noncomputable def rw_84r : Nat → Option Op := fun n => cond (Nat.beq n 3) (some (oCall (runC 15) 84 6 2 1 0 2 (hdT (some 11) none none none))) (cond (Nat.beq n 11) (some (oStore 84 12 2 4)) (cond (Nat.beq n 12) (some (oPush 84 13 (.int (Int32.ofInt (1))))) (cond (Nat.beq n 13) (some (oRet .int 0)) (none))))
noncomputable def rw_84 : Nat → Option Op := fun n => cond (Nat.blt n 3) (rw_84l n) (rw_84r n)
noncomputable def rw_85ll : Nat → Option Op := fun n => cond (Nat.beq n 0) (some (oLoad 85 2 5 4)) (cond (Nat.beq n 2) (some (oPush 85 3 (.int (Int32.ofInt (0))))) (cond (Nat.beq n 3) (some (oLoad 85 4 0 4)) (none)))
noncomputable def rw_85lr : Nat → Option Op := fun n => cond (Nat.beq n 4) (some (oLoad 85 5 1 0)) (cond (Nat.beq n 5) (some (oLoad 85 6 2 0)) (cond (Nat.beq n 6) (some (oLoad 85 7 3 0)) (cond (Nat.beq n 7) (some (oLoad 85 9 4 0)) (none))))
noncomputable def rw_85l : Nat → Option Op := fun n => cond (Nat.blt n 4) (rw_85ll n) (rw_85lr n)
noncomputable def rw_85rl : Nat → Option Op := fun n => cond (Nat.beq n 9) (some (oCall (runC 16) 85 12 2 5 0 7 (hdT (some 25) (some 21) (some 17) none))) (cond (Nat.beq n 17) (some (oStore 85 19 6 4)) (cond (Nat.beq n 19) (some (oPush 85 20 (.int (Int32.ofInt (1))))) (none)))
noncomputable def rw_85rr : Nat → Option Op := fun n => cond (Nat.beq n 20) (some (oRet .int 0)) (cond (Nat.beq n 21) (some (oStore 85 23 6 4)) (cond (Nat.beq n 23) (some (oPush 85 24 (.int (Int32.ofInt (2))))) (cond (Nat.beq n 24) (some (oRet .int 0)) (none))))
noncomputable def rw_85r : Nat → Option Op := fun n => cond (Nat.blt n 20) (rw_85rl n) (rw_85rr n)
noncomputable def rw_85 : Nat → Option Op := fun n => cond (Nat.blt n 9) (rw_85l n) (rw_85r n)
noncomputable def rw_86l : Nat → Option Op := fun n => cond (Nat.beq n 0) (some (oLoad 86 1 1 4)) (cond (Nat.beq n 1) (some (oPush 86 2 (.int (Int32.ofInt (0))))) (cond (Nat.beq n 2) (some (oLoad 86 3 0 4)) (cond (Nat.beq n 3) (some (oCall (runC 17) 86 6 2 1 0 1 (hdT (some 11) none none none))) (none))))
noncomputable def rw_86rl : Nat → Option Op := fun n => cond (Nat.beq n 6) (some (oI2l 86 7)) (cond (Nat.beq n 7) (some (oLast 86 8)) (none))
noncomputable def rw_86rr : Nat → Option Op := fun n => cond (Nat.beq n 8) (some (oGoto 86 17)) (cond (Nat.beq n 17) (some (oPush 86 18 (.int (Int32.ofInt (0))))) (cond (Nat.beq n 18) (some (oRet .int 0)) (none)))
noncomputable def rw_86r : Nat → Option Op := fun n => cond (Nat.blt n 8) (rw_86rl n) (rw_86rr n)
noncomputable def rw_86 : Nat → Option Op := fun n => cond (Nat.blt n 6) (rw_86l n) (rw_86r n)
noncomputable def rw_87l : Nat → Option Op := fun n => cond (Nat.beq n 0) (some (oLoad 87 1 2 4)) (cond (Nat.beq n 1) (some (oPush 87 2 (.int (Int32.ofInt (0))))) (cond (Nat.beq n 2) (some (oLoad 87 3 0 4)) (cond (Nat.beq n 3) (some (oLoad 87 4 1 0)) (none))))
noncomputable def rw_87r : Nat → Option Op := fun n => cond (Nat.beq n 4) (some (oCall (runC 18) 87 7 2 2 0 2 (hdT (some 22) (some 19) none none))) (cond (Nat.beq n 19) (some (oStore 87 20 3 4)) (cond (Nat.beq n 20) (some (oPush 87 21 (.int (Int32.ofInt (1))))) (cond (Nat.beq n 21) (some (oRet .int 0)) (none))))
noncomputable def rw_87 : Nat → Option Op := fun n => cond (Nat.blt n 4) (rw_87l n) (rw_87r n)
noncomputable def rw_88ll : Nat → Option Op := fun n => cond (Nat.beq n 0) (some (oLoad 88 1 2 4)) (cond (Nat.beq n 1) (some (oPush 88 2 (.int (Int32.ofInt (0))))) (none))
noncomputable def rw_88lr : Nat → Option Op := fun n => cond (Nat.beq n 2) (some (oLoad 88 3 0 4)) (cond (Nat.beq n 3) (some (oLoad 88 4 1 0)) (cond (Nat.beq n 4) (some (oCall (runC 19) 88 7 2 2 0 2 (hdT (some 22) none (some 19) none))) (none)))
noncomputable def rw_88l : Nat → Option Op := fun n => cond (Nat.blt n 2) (rw_88ll n) (rw_88lr n)
noncomputable def rw_88rl : Nat → Option Op := fun n => cond (Nat.beq n 19) (some (oStore 88 20 3 4)) (cond (Nat.beq n 20) (some (oPush 88 21 (.int (Int32.ofInt (1))))) (cond (Nat.beq n 21) (some (oRet .int 0)) (none)))
noncomputable def rw_88rr : Nat → Option Op := fun n => cond (Nat.beq n 22) (some (oStore 88 23 3 4)) (cond (Nat.beq n 23) (some (oPush 88 24 (.int (Int32.ofInt (2))))) (cond (Nat.beq n 24) (some (oRet .int 0)) (none)))
noncomputable def rw_88r : Nat → Option Op := fun n => cond (Nat.blt n 22) (rw_88rl n) (rw_88rr n)
noncomputable def rw_88 : Nat → Option Op := fun n => cond (Nat.blt n 19) (rw_88l n) (rw_88r n)
noncomputable def rw_89l : Nat → Option Op := fun n => cond (Nat.beq n 0) (some (oLoad 89 1 2 4)) (cond (Nat.beq n 1) (some (oPush 89 2 (.int (Int32.ofInt (0))))) (cond (Nat.beq n 2) (some (oLoad 89 3 0 4)) (cond (Nat.beq n 3) (some (oLoad 89 4 1 0)) (none))))
noncomputable def rw_89r : Nat → Option Op := fun n => cond (Nat.beq n 4) (some (oCall (runC 20) 89 7 2 2 0 2 (hdT (some 22) (some 19) none none))) (cond (Nat.beq n 19) (some (oStore 89 20 3 4)) (cond (Nat.beq n 20) (some (oPush 89 21 (.int (Int32.ofInt (1))))) (cond (Nat.beq n 21) (some (oRet .int 0)) (none))))
noncomputable def rw_89 : Nat → Option Op := fun n => cond (Nat.blt n 4) (rw_89l n) (rw_89r n)
noncomputable def rw_90lllllllll : Nat → Option Op := fun n => cond (Nat.beq n 0) (some (oNew 90 3 0 3 [.null, .null, .null])) (cond (Nat.beq n 3) (some (oDup 90 4)) (none))
noncomputable def rw_90llllllllr : Nat → Option Op := fun n => cond (Nat.beq n 4) (some (oCall (runC 0) 90 7 3 1 0 1 hdN)) (cond (Nat.beq n 7) (some (oStore 90 8 1 4)) (cond (Nat.beq n 8) (some (oNew 90 11 2 31 [.null, .null, .null, .null, .null, .null, .null, .null, .null, .null, .int 0, .int 0, .int 0, .int 0, .int 0, .int 0, .int 0, .null, .null, .null, .null, .int 0, .int 0, .null, .null, .null, .null, .null, .int 0, .int 0, .int 0])) (none)))
noncomputable def rw_90llllllll : Nat → Option Op := fun n => cond (Nat.blt n 4) (rw_90lllllllll n) (rw_90llllllllr n)
noncomputable def rw_90lllllllrl : Nat → Option Op := fun n => cond (Nat.beq n 11) (some (oDup 90 12)) (cond (Nat.beq n 12) (some (oCall (runC 115) 90 15 3 1 0 1 hdN)) (cond (Nat.beq n 15) (some (oStore 90 16 2 4)) (none)))
noncomputable def rw_90lllllllrr : Nat → Option Op := fun n => cond (Nat.beq n 16) (some (oPush 90 17 (.int (Int32.ofInt (1))))) (cond (Nat.beq n 17) (some (oNewarr 90 19 .long 1)) (cond (Nat.beq n 19) (some (oStore 90 20 3 4)) (none)))
noncomputable def rw_90lllllllr : Nat → Option Op := fun n => cond (Nat.blt n 16) (rw_90lllllllrl n) (rw_90lllllllrr n)
noncomputable def rw_90lllllll : Nat → Option Op := fun n => cond (Nat.blt n 11) (rw_90llllllll n) (rw_90lllllllr n)
noncomputable def rw_90llllllrll : Nat → Option Op := fun n => cond (Nat.beq n 20) (some (oPush 90 21 (.int (Int32.ofInt (1))))) (cond (Nat.beq n 21) (some (oNewarr 90 23 .double 2)) (cond (Nat.beq n 23) (some (oStore 90 25 4 4)) (none)))
noncomputable def rw_90llllllrlr : Nat → Option Op := fun n => cond (Nat.beq n 25) (some (oPush 90 26 (.int (Int32.ofInt (0))))) (cond (Nat.beq n 26) (some (oStore 90 28 5 0)) (cond (Nat.beq n 28) (some (oLoad 90 30 5 0)) (none)))
noncomputable def rw_90llllllrl : Nat → Option Op := fun n => cond (Nat.blt n 25) (rw_90llllllrll n) (rw_90llllllrlr n)
noncomputable def rw_90llllllrrl : Nat → Option Op := fun n => cond (Nat.beq n 30) (some (oLoad 90 31 0 4)) (cond (Nat.beq n 31) (some (oLen slen 90 32)) (cond (Nat.beq n 32) (some (oPush 90 34 (.int (Int32.ofInt (6))))) (none)))
noncomputable def rw_90llllllrrr : Nat → Option Op := fun n => cond (Nat.beq n 34) (some (oBin sdv 90 35 1)) (cond (Nat.beq n 35) (some (oCmp2 90 38 3282 .gt)) (cond (Nat.beq n 38) (some (oLoad 90 39 0 4)) (none)))
noncomputable def rw_90llllllrr : Nat → Option Op := fun n => cond (Nat.blt n 34) (rw_90llllllrrl n) (rw_90llllllrrr n)
noncomputable def rw_90llllllr : Nat → Option Op := fun n => cond (Nat.blt n 30) (rw_90llllllrl n) (rw_90llllllrr n)
noncomputable def rw_90llllll : Nat → Option Op := fun n => cond (Nat.blt n 20) (rw_90lllllll n) (rw_90llllllr n)
noncomputable def rw_90lllllrlll : Nat → Option Op := fun n => cond (Nat.beq n 39) (some (oLoad 90 41 5 0)) (cond (Nat.beq n 41) (some (oIald 90 42)) (none))
noncomputable def rw_90lllllrllr : Nat → Option Op := fun n => cond (Nat.beq n 42) (some (oPush 90 44 (.int (Int32.ofInt (63))))) (cond (Nat.beq n 44) (some (oBin sdv 90 45 3)) (cond (Nat.beq n 45) (some (oTab 90 45 (3231) (0) (47) #[(207), (251), (331), (425), (493), (561), (605), (661), (729), (785), (829), (913), (969), (1024), (1080), (1188), (1284), (1380), (1436), (1492), (1506), (1519), (1587), (1643), (1711), (1755), (1799), (1867), (1959), (2039), (2107), (2199), (2262), (2354), (2410), (2473), (2577), (2680), (2724), (2768), (2812), (2868), (2931), (2994), (3074), (3087), (3153), (3218)])) (none)))
noncomputable def rw_90lllllrll : Nat → Option Op := fun n => cond (Nat.blt n 42) (rw_90lllllrlll n) (rw_90lllllrllr n)
noncomputable def rw_90lllllrlrl : Nat → Option Op := fun n => cond (Nat.beq n 252) (some (oLoad 90 253 1 4)) (cond (Nat.beq n 253) (some (oLoad 90 254 3 4)) (cond (Nat.beq n 254) (some (oCall (runC 86) 90 257 1 2 0 3 hdN)) (none)))
noncomputable def rw_90lllllrlrr : Nat → Option Op := fun n => cond (Nat.beq n 257) (some (oStore 90 259 6 0)) (cond (Nat.beq n 259) (some (oLoad 90 260 2 4)) (cond (Nat.beq n 260) (some (oCall (runC 134) 90 263 2 1 2 1 hdN)) (none)))
noncomputable def rw_90lllllrlr : Nat → Option Op := fun n => cond (Nat.blt n 257) (rw_90lllllrlrl n) (rw_90lllllrlrr n)
noncomputable def rw_90lllllrl : Nat → Option Op := fun n => cond (Nat.blt n 252) (rw_90lllllrll n) (rw_90lllllrlr n)
noncomputable def rw_90lllllrrll : Nat → Option Op := fun n => cond (Nat.beq n 263) (some (oStore 90 265 7 0)) (cond (Nat.beq n 265) (some (oLoad 90 266 2 4)) (cond (Nat.beq n 266) (some (oCall (runC 170) 90 269 2 1 2 1 hdN)) (none)))
noncomputable def rw_90lllllrrlr : Nat → Option Op := fun n => cond (Nat.beq n 269) (some (oLoad 90 271 6 0)) (cond (Nat.beq n 271) (some (oCmp2 90 274 276 .eq)) (cond (Nat.beq n 276) (some (oLoad 90 278 6 0)) (none)))
noncomputable def rw_90lllllrrl : Nat → Option Op := fun n => cond (Nat.blt n 269) (rw_90lllllrrll n) (rw_90lllllrrlr n)
noncomputable def rw_90lllllrrrl : Nat → Option Op := fun n => cond (Nat.beq n 278) (some (oCmp1 90 281 293 .ne)) (cond (Nat.beq n 281) (some (oLoad 90 282 3 4)) (cond (Nat.beq n 282) (some (oPush 90 283 (.int (Int32.ofInt (0))))) (none)))
noncomputable def rw_90lllllrrrr : Nat → Option Op := fun n => cond (Nat.beq n 283) (some (oLald 90 284)) (cond (Nat.beq n 284) (some (oLoad 90 286 7 0)) (cond (Nat.beq n 286) (some (oI2l 90 287)) (none)))
noncomputable def rw_90lllllrrr : Nat → Option Op := fun n => cond (Nat.blt n 283) (rw_90lllllrrrl n) (rw_90lllllrrrr n)
noncomputable def rw_90lllllrr : Nat → Option Op := fun n => cond (Nat.blt n 278) (rw_90lllllrrl n) (rw_90lllllrrr n)
noncomputable def rw_90lllllr : Nat → Option Op := fun n => cond (Nat.blt n 263) (rw_90lllllrl n) (rw_90lllllrr n)
noncomputable def rw_90lllll : Nat → Option Op := fun n => cond (Nat.blt n 39) (rw_90llllll n) (rw_90lllllr n)
noncomputable def rw_90llllrllll : Nat → Option Op := fun n => cond (Nat.beq n 287) (some (oLcmp 90 288)) (cond (Nat.beq n 288) (some (oCmp1 90 291 293 .eq)) (none))
noncomputable def rw_90llllrlllr : Nat → Option Op := fun n => cond (Nat.beq n 293) (some (oGoto 90 3276)) (cond (Nat.beq n 296) (some (oLoad 90 297 1 4)) (cond (Nat.beq n 297) (some (oLoad 90 298 0 4)) (none)))
noncomputable def rw_90llllrlll : Nat → Option Op := fun n => cond (Nat.blt n 293) (rw_90llllrllll n) (rw_90llllrlllr n)
noncomputable def rw_90llllrllrl : Nat → Option Op := fun n => cond (Nat.beq n 298) (some (oLoad 90 300 5 0)) (cond (Nat.beq n 300) (some (oPush 90 301 (.int (Int32.ofInt (1))))) (cond (Nat.beq n 301) (some (oBin sdv 90 302 0)) (none)))
noncomputable def rw_90llllrllrr : Nat → Option Op := fun n => cond (Nat.beq n 302) (some (oIald 90 303)) (cond (Nat.beq n 303) (some (oLoad 90 304 0 4)) (cond (Nat.beq n 304) (some (oLoad 90 306 5 0)) (none)))
noncomputable def rw_90llllrllr : Nat → Option Op := fun n => cond (Nat.blt n 302) (rw_90llllrllrl n) (rw_90llllrllrr n)
noncomputable def rw_90llllrll : Nat → Option Op := fun n => cond (Nat.blt n 298) (rw_90llllrlll n) (rw_90llllrllr n)
noncomputable def rw_90llllrlrll : Nat → Option Op := fun n => cond (Nat.beq n 306) (some (oPush 90 307 (.int (Int32.ofInt (2))))) (cond (Nat.beq n 307) (some (oBin sdv 90 308 0)) (cond (Nat.beq n 308) (some (oIald 90 309)) (none)))
noncomputable def rw_90llllrlrlr : Nat → Option Op := fun n => cond (Nat.beq n 309) (some (oLoad 90 310 0 4)) (cond (Nat.beq n 310) (some (oLoad 90 312 5 0)) (cond (Nat.beq n 312) (some (oPush 90 313 (.int (Int32.ofInt (3))))) (none)))
noncomputable def rw_90llllrlrl : Nat → Option Op := fun n => cond (Nat.blt n 309) (rw_90llllrlrll n) (rw_90llllrlrlr n)
noncomputable def rw_90llllrlrrl : Nat → Option Op := fun n => cond (Nat.beq n 313) (some (oBin sdv 90 314 0)) (cond (Nat.beq n 314) (some (oIald 90 315)) (cond (Nat.beq n 315) (some (oLoad 90 316 3 4)) (none)))
noncomputable def rw_90llllrlrrr : Nat → Option Op := fun n => cond (Nat.beq n 316) (some (oCall (runC 74) 90 319 1 5 0 6 hdN)) (cond (Nat.beq n 319) (some (oStore 90 321 6 0)) (cond (Nat.beq n 321) (some (oLoad 90 322 2 4)) (none)))
noncomputable def rw_90llllrlrr : Nat → Option Op := fun n => cond (Nat.blt n 316) (rw_90llllrlrrl n) (rw_90llllrlrrr n)
noncomputable def rw_90llllrlr : Nat → Option Op := fun n => cond (Nat.blt n 313) (rw_90llllrlrl n) (rw_90llllrlrr n)
noncomputable def rw_90llllrl : Nat → Option Op := fun n => cond (Nat.blt n 306) (rw_90llllrll n) (rw_90llllrlr n)
noncomputable def rw_90llllrrlll : Nat → Option Op := fun n => cond (Nat.beq n 322) (some (oLoad 90 323 0 4)) (cond (Nat.beq n 323) (some (oLoad 90 325 5 0)) (none))
noncomputable def rw_90llllrrllr : Nat → Option Op := fun n => cond (Nat.beq n 325) (some (oPush 90 326 (.int (Int32.ofInt (1))))) (cond (Nat.beq n 326) (some (oBin sdv 90 327 0)) (cond (Nat.beq n 327) (some (oIald 90 328)) (none)))
noncomputable def rw_90llllrrll : Nat → Option Op := fun n => cond (Nat.blt n 325) (rw_90llllrrlll n) (rw_90llllrrllr n)
noncomputable def rw_90llllrrlrl : Nat → Option Op := fun n => cond (Nat.beq n 328) (some (oLoad 90 329 0 4)) (cond (Nat.beq n 329) (some (oLoad 90 331 5 0)) (cond (Nat.beq n 331) (some (oPush 90 332 (.int (Int32.ofInt (2))))) (none)))
noncomputable def rw_90llllrrlrr : Nat → Option Op := fun n => cond (Nat.beq n 332) (some (oBin sdv 90 333 0)) (cond (Nat.beq n 333) (some (oIald 90 334)) (cond (Nat.beq n 334) (some (oLoad 90 335 0 4)) (none)))
noncomputable def rw_90llllrrlr : Nat → Option Op := fun n => cond (Nat.blt n 332) (rw_90llllrrlrl n) (rw_90llllrrlrr n)
noncomputable def rw_90llllrrl : Nat → Option Op := fun n => cond (Nat.blt n 328) (rw_90llllrrll n) (rw_90llllrrlr n)
noncomputable def rw_90llllrrrll : Nat → Option Op := fun n => cond (Nat.beq n 335) (some (oLoad 90 337 5 0)) (cond (Nat.beq n 337) (some (oPush 90 338 (.int (Int32.ofInt (3))))) (cond (Nat.beq n 338) (some (oBin sdv 90 339 0)) (none)))
noncomputable def rw_90llllrrrlr : Nat → Option Op := fun n => cond (Nat.beq n 339) (some (oIald 90 340)) (cond (Nat.beq n 340) (some (oCall (runC 121) 90 343 2 4 2 4 hdN)) (cond (Nat.beq n 343) (some (oStore 90 345 7 0)) (none)))
noncomputable def rw_90llllrrrl : Nat → Option Op := fun n => cond (Nat.blt n 339) (rw_90llllrrrll n) (rw_90llllrrrlr n)
noncomputable def rw_90llllrrrrl : Nat → Option Op := fun n => cond (Nat.beq n 345) (some (oLoad 90 346 2 4)) (cond (Nat.beq n 346) (some (oCall (runC 170) 90 349 2 1 2 1 hdN)) (cond (Nat.beq n 349) (some (oLoad 90 351 6 0)) (none)))
noncomputable def rw_90llllrrrrr : Nat → Option Op := fun n => cond (Nat.beq n 351) (some (oCmp2 90 354 356 .eq)) (cond (Nat.beq n 356) (some (oLoad 90 358 6 0)) (cond (Nat.beq n 358) (some (oCmp1 90 361 373 .ne)) (none)))
noncomputable def rw_90llllrrrr : Nat → Option Op := fun n => cond (Nat.blt n 351) (rw_90llllrrrrl n) (rw_90llllrrrrr n)
noncomputable def rw_90llllrrr : Nat → Option Op := fun n => cond (Nat.blt n 345) (rw_90llllrrrl n) (rw_90llllrrrr n)
noncomputable def rw_90llllrr : Nat → Option Op := fun n => cond (Nat.blt n 335) (rw_90llllrrl n) (rw_90llllrrr n)
noncomputable def rw_90llllr : Nat → Option Op := fun n => cond (Nat.blt n 322) (rw_90llllrl n) (rw_90llllrr n)
noncomputable def rw_90llll : Nat → Option Op := fun n => cond (Nat.blt n 287) (rw_90lllll n) (rw_90llllr n)
noncomputable def rw_90lllrlllll : Nat → Option Op := fun n => cond (Nat.beq n 361) (some (oLoad 90 362 3 4)) (cond (Nat.beq n 362) (some (oPush 90 363 (.int (Int32.ofInt (0))))) (none))
noncomputable def rw_90lllrllllr : Nat → Option Op := fun n => cond (Nat.beq n 363) (some (oLald 90 364)) (cond (Nat.beq n 364) (some (oLoad 90 366 7 0)) (cond (Nat.beq n 366) (some (oI2l 90 367)) (none)))
noncomputable def rw_90lllrllll : Nat → Option Op := fun n => cond (Nat.blt n 363) (rw_90lllrlllll n) (rw_90lllrllllr n)
noncomputable def rw_90lllrlllrl : Nat → Option Op := fun n => cond (Nat.beq n 367) (some (oLcmp 90 368)) (cond (Nat.beq n 368) (some (oCmp1 90 371 373 .eq)) (cond (Nat.beq n 373) (some (oGoto 90 3276)) (none)))
noncomputable def rw_90lllrlllrr : Nat → Option Op := fun n => cond (Nat.beq n 376) (some (oLoad 90 377 1 4)) (cond (Nat.beq n 377) (some (oLoad 90 378 0 4)) (cond (Nat.beq n 378) (some (oLoad 90 380 5 0)) (none)))
noncomputable def rw_90lllrlllr : Nat → Option Op := fun n => cond (Nat.blt n 376) (rw_90lllrlllrl n) (rw_90lllrlllrr n)
noncomputable def rw_90lllrlll : Nat → Option Op := fun n => cond (Nat.blt n 367) (rw_90lllrllll n) (rw_90lllrlllr n)
noncomputable def rw_90lllrllrll : Nat → Option Op := fun n => cond (Nat.beq n 380) (some (oPush 90 381 (.int (Int32.ofInt (1))))) (cond (Nat.beq n 381) (some (oBin sdv 90 382 0)) (cond (Nat.beq n 382) (some (oIald 90 383)) (none)))
noncomputable def rw_90lllrllrlr : Nat → Option Op := fun n => cond (Nat.beq n 383) (some (oLoad 90 384 0 4)) (cond (Nat.beq n 384) (some (oLoad 90 386 5 0)) (cond (Nat.beq n 386) (some (oPush 90 387 (.int (Int32.ofInt (2))))) (none)))
noncomputable def rw_90lllrllrl : Nat → Option Op := fun n => cond (Nat.blt n 383) (rw_90lllrllrll n) (rw_90lllrllrlr n)
noncomputable def rw_90lllrllrrl : Nat → Option Op := fun n => cond (Nat.beq n 387) (some (oBin sdv 90 388 0)) (cond (Nat.beq n 388) (some (oIald 90 389)) (cond (Nat.beq n 389) (some (oI2c sdv 90 390)) (none)))
noncomputable def rw_90lllrllrrr : Nat → Option Op := fun n => cond (Nat.beq n 390) (some (oLoad 90 391 0 4)) (cond (Nat.beq n 391) (some (oLoad 90 393 5 0)) (cond (Nat.beq n 393) (some (oPush 90 394 (.int (Int32.ofInt (3))))) (none)))
noncomputable def rw_90lllrllrr : Nat → Option Op := fun n => cond (Nat.blt n 390) (rw_90lllrllrrl n) (rw_90lllrllrrr n)
noncomputable def rw_90lllrllr : Nat → Option Op := fun n => cond (Nat.blt n 387) (rw_90lllrllrl n) (rw_90lllrllrr n)
noncomputable def rw_90lllrll : Nat → Option Op := fun n => cond (Nat.blt n 380) (rw_90lllrlll n) (rw_90lllrllr n)
noncomputable def rw_90lllrlrlll : Nat → Option Op := fun n => cond (Nat.beq n 394) (some (oBin sdv 90 395 0)) (cond (Nat.beq n 395) (some (oIald 90 396)) (none))
noncomputable def rw_90lllrlrllr : Nat → Option Op := fun n => cond (Nat.beq n 396) (some (oLoad 90 397 0 4)) (cond (Nat.beq n 397) (some (oLoad 90 399 5 0)) (cond (Nat.beq n 399) (some (oPush 90 400 (.int (Int32.ofInt (4))))) (none)))
noncomputable def rw_90lllrlrll : Nat → Option Op := fun n => cond (Nat.blt n 396) (rw_90lllrlrlll n) (rw_90lllrlrllr n)
noncomputable def rw_90lllrlrlrl : Nat → Option Op := fun n => cond (Nat.beq n 400) (some (oBin sdv 90 401 0)) (cond (Nat.beq n 401) (some (oIald 90 402)) (cond (Nat.beq n 402) (some (oLoad 90 403 3 4)) (none)))
noncomputable def rw_90lllrlrlrr : Nat → Option Op := fun n => cond (Nat.beq n 403) (some (oCall (runC 85) 90 406 1 6 0 7 hdN)) (cond (Nat.beq n 406) (some (oStore 90 408 6 0)) (cond (Nat.beq n 408) (some (oLoad 90 409 2 4)) (none)))
noncomputable def rw_90lllrlrlr : Nat → Option Op := fun n => cond (Nat.blt n 403) (rw_90lllrlrlrl n) (rw_90lllrlrlrr n)
noncomputable def rw_90lllrlrl : Nat → Option Op := fun n => cond (Nat.blt n 400) (rw_90lllrlrll n) (rw_90lllrlrlr n)
noncomputable def rw_90lllrlrrll : Nat → Option Op := fun n => cond (Nat.beq n 409) (some (oLoad 90 410 0 4)) (cond (Nat.beq n 410) (some (oLoad 90 412 5 0)) (cond (Nat.beq n 412) (some (oPush 90 413 (.int (Int32.ofInt (1))))) (none)))
noncomputable def rw_90lllrlrrlr : Nat → Option Op := fun n => cond (Nat.beq n 413) (some (oBin sdv 90 414 0)) (cond (Nat.beq n 414) (some (oIald 90 415)) (cond (Nat.beq n 415) (some (oLoad 90 416 0 4)) (none)))
noncomputable def rw_90lllrlrrl : Nat → Option Op := fun n => cond (Nat.blt n 413) (rw_90lllrlrrll n) (rw_90lllrlrrlr n)
noncomputable def rw_90lllrlrrrl : Nat → Option Op := fun n => cond (Nat.beq n 416) (some (oLoad 90 418 5 0)) (cond (Nat.beq n 418) (some (oPush 90 419 (.int (Int32.ofInt (2))))) (cond (Nat.beq n 419) (some (oBin sdv 90 420 0)) (none)))
noncomputable def rw_90lllrlrrrr : Nat → Option Op := fun n => cond (Nat.beq n 420) (some (oIald 90 421)) (cond (Nat.beq n 421) (some (oI2c sdv 90 422)) (cond (Nat.beq n 422) (some (oLoad 90 423 0 4)) (none)))
noncomputable def rw_90lllrlrrr : Nat → Option Op := fun n => cond (Nat.blt n 420) (rw_90lllrlrrrl n) (rw_90lllrlrrrr n)
noncomputable def rw_90lllrlrr : Nat → Option Op := fun n => cond (Nat.blt n 416) (rw_90lllrlrrl n) (rw_90lllrlrrr n)
noncomputable def rw_90lllrlr : Nat → Option Op := fun n => cond (Nat.blt n 409) (rw_90lllrlrl n) (rw_90lllrlrr n)
noncomputable def rw_90lllrl : Nat → Option Op := fun n => cond (Nat.blt n 394) (rw_90lllrll n) (rw_90lllrlr n)
noncomputable def rw_90lllrrllll : Nat → Option Op := fun n => cond (Nat.beq n 423) (some (oLoad 90 425 5 0)) (cond (Nat.beq n 425) (some (oPush 90 426 (.int (Int32.ofInt (3))))) (none))
noncomputable def rw_90lllrrlllr : Nat → Option Op := fun n => cond (Nat.beq n 426) (some (oBin sdv 90 427 0)) (cond (Nat.beq n 427) (some (oIald 90 428)) (cond (Nat.beq n 428) (some (oLoad 90 429 0 4)) (none)))
noncomputable def rw_90lllrrlll : Nat → Option Op := fun n => cond (Nat.blt n 426) (rw_90lllrrllll n) (rw_90lllrrlllr n)
noncomputable def rw_90lllrrllrl : Nat → Option Op := fun n => cond (Nat.beq n 429) (some (oLoad 90 431 5 0)) (cond (Nat.beq n 431) (some (oPush 90 432 (.int (Int32.ofInt (4))))) (cond (Nat.beq n 432) (some (oBin sdv 90 433 0)) (none)))
noncomputable def rw_90lllrrllrr : Nat → Option Op := fun n => cond (Nat.beq n 433) (some (oIald 90 434)) (cond (Nat.beq n 434) (some (oCall (runC 133) 90 437 2 5 2 9 hdN)) (cond (Nat.beq n 437) (some (oStore 90 439 7 0)) (none)))
noncomputable def rw_90lllrrllr : Nat → Option Op := fun n => cond (Nat.blt n 433) (rw_90lllrrllrl n) (rw_90lllrrllrr n)
noncomputable def rw_90lllrrll : Nat → Option Op := fun n => cond (Nat.blt n 429) (rw_90lllrrlll n) (rw_90lllrrllr n)
noncomputable def rw_90lllrrlrll : Nat → Option Op := fun n => cond (Nat.beq n 439) (some (oLoad 90 440 2 4)) (cond (Nat.beq n 440) (some (oCall (runC 170) 90 443 2 1 2 1 hdN)) (cond (Nat.beq n 443) (some (oLoad 90 445 6 0)) (none)))
noncomputable def rw_90lllrrlrlr : Nat → Option Op := fun n => cond (Nat.beq n 445) (some (oCmp2 90 448 450 .eq)) (cond (Nat.beq n 450) (some (oLoad 90 452 6 0)) (cond (Nat.beq n 452) (some (oCmp1 90 455 467 .ne)) (none)))
noncomputable def rw_90lllrrlrl : Nat → Option Op := fun n => cond (Nat.blt n 445) (rw_90lllrrlrll n) (rw_90lllrrlrlr n)
noncomputable def rw_90lllrrlrrl : Nat → Option Op := fun n => cond (Nat.beq n 467) (some (oGoto 90 3276)) (cond (Nat.beq n 470) (some (oLoad 90 471 1 4)) (cond (Nat.beq n 471) (some (oLoad 90 472 0 4)) (none)))
noncomputable def rw_90lllrrlrrr : Nat → Option Op := fun n => cond (Nat.beq n 472) (some (oLoad 90 474 5 0)) (cond (Nat.beq n 474) (some (oPush 90 475 (.int (Int32.ofInt (1))))) (cond (Nat.beq n 475) (some (oBin sdv 90 476 0)) (none)))
noncomputable def rw_90lllrrlrr : Nat → Option Op := fun n => cond (Nat.blt n 472) (rw_90lllrrlrrl n) (rw_90lllrrlrrr n)
noncomputable def rw_90lllrrlr : Nat → Option Op := fun n => cond (Nat.blt n 467) (rw_90lllrrlrl n) (rw_90lllrrlrr n)
noncomputable def rw_90lllrrl : Nat → Option Op := fun n => cond (Nat.blt n 439) (rw_90lllrrll n) (rw_90lllrrlr n)
noncomputable def rw_90lllrrrlll : Nat → Option Op := fun n => cond (Nat.beq n 476) (some (oIald 90 477)) (cond (Nat.beq n 477) (some (oLoad 90 478 0 4)) (cond (Nat.beq n 478) (some (oLoad 90 480 5 0)) (none)))
noncomputable def rw_90lllrrrllr : Nat → Option Op := fun n => cond (Nat.beq n 480) (some (oPush 90 481 (.int (Int32.ofInt (2))))) (cond (Nat.beq n 481) (some (oBin sdv 90 482 0)) (cond (Nat.beq n 482) (some (oIald 90 483)) (none)))
noncomputable def rw_90lllrrrll : Nat → Option Op := fun n => cond (Nat.blt n 480) (rw_90lllrrrlll n) (rw_90lllrrrllr n)
noncomputable def rw_90lllrrrlrl : Nat → Option Op := fun n => cond (Nat.beq n 483) (some (oLoad 90 484 3 4)) (cond (Nat.beq n 484) (some (oCall (runC 82) 90 487 1 4 0 5 hdN)) (cond (Nat.beq n 487) (some (oStore 90 489 6 0)) (none)))
noncomputable def rw_90lllrrrlrr : Nat → Option Op := fun n => cond (Nat.beq n 489) (some (oLoad 90 490 2 4)) (cond (Nat.beq n 490) (some (oLoad 90 491 0 4)) (cond (Nat.beq n 491) (some (oLoad 90 493 5 0)) (none)))
noncomputable def rw_90lllrrrlr : Nat → Option Op := fun n => cond (Nat.blt n 489) (rw_90lllrrrlrl n) (rw_90lllrrrlrr n)
noncomputable def rw_90lllrrrl : Nat → Option Op := fun n => cond (Nat.blt n 483) (rw_90lllrrrll n) (rw_90lllrrrlr n)
noncomputable def rw_90lllrrrrll : Nat → Option Op := fun n => cond (Nat.beq n 493) (some (oPush 90 494 (.int (Int32.ofInt (1))))) (cond (Nat.beq n 494) (some (oBin sdv 90 495 0)) (cond (Nat.beq n 495) (some (oIald 90 496)) (none)))
noncomputable def rw_90lllrrrrlr : Nat → Option Op := fun n => cond (Nat.beq n 496) (some (oLoad 90 497 0 4)) (cond (Nat.beq n 497) (some (oLoad 90 499 5 0)) (cond (Nat.beq n 499) (some (oPush 90 500 (.int (Int32.ofInt (2))))) (none)))
noncomputable def rw_90lllrrrrl : Nat → Option Op := fun n => cond (Nat.blt n 496) (rw_90lllrrrrll n) (rw_90lllrrrrlr n)
noncomputable def rw_90lllrrrrrl : Nat → Option Op := fun n => cond (Nat.beq n 500) (some (oBin sdv 90 501 0)) (cond (Nat.beq n 501) (some (oIald 90 502)) (cond (Nat.beq n 502) (some (oCall (runC 130) 90 505 2 3 2 5 hdN)) (none)))
noncomputable def rw_90lllrrrrrr : Nat → Option Op := fun n => cond (Nat.beq n 505) (some (oStore 90 507 7 0)) (cond (Nat.beq n 507) (some (oLoad 90 508 2 4)) (cond (Nat.beq n 508) (some (oCall (runC 170) 90 511 2 1 2 1 hdN)) (none)))
noncomputable def rw_90lllrrrrr : Nat → Option Op := fun n => cond (Nat.blt n 505) (rw_90lllrrrrrl n) (rw_90lllrrrrrr n)
noncomputable def rw_90lllrrrr : Nat → Option Op := fun n => cond (Nat.blt n 500) (rw_90lllrrrrl n) (rw_90lllrrrrr n)
noncomputable def rw_90lllrrr : Nat → Option Op := fun n => cond (Nat.blt n 493) (rw_90lllrrrl n) (rw_90lllrrrr n)
noncomputable def rw_90lllrr : Nat → Option Op := fun n => cond (Nat.blt n 476) (rw_90lllrrl n) (rw_90lllrrr n)
noncomputable def rw_90lllr : Nat → Option Op := fun n => cond (Nat.blt n 423) (rw_90lllrl n) (rw_90lllrr n)
noncomputable def rw_90lll : Nat → Option Op := fun n => cond (Nat.blt n 361) (rw_90llll n) (rw_90lllr n)
noncomputable def rw_90llrllllll : Nat → Option Op := fun n => cond (Nat.beq n 511) (some (oLoad 90 513 6 0)) (cond (Nat.beq n 513) (some (oCmp2 90 516 518 .eq)) (none))
noncomputable def rw_90llrlllllr : Nat → Option Op := fun n => cond (Nat.beq n 518) (some (oLoad 90 520 6 0)) (cond (Nat.beq n 520) (some (oCmp1 90 523 535 .ne)) (cond (Nat.beq n 535) (some (oGoto 90 3276)) (none)))
noncomputable def rw_90llrlllll : Nat → Option Op := fun n => cond (Nat.blt n 518) (rw_90llrllllll n) (rw_90llrlllllr n)
noncomputable def rw_90llrllllrl : Nat → Option Op := fun n => cond (Nat.beq n 538) (some (oLoad 90 539 1 4)) (cond (Nat.beq n 539) (some (oLoad 90 540 0 4)) (cond (Nat.beq n 540) (some (oLoad 90 542 5 0)) (none)))
noncomputable def rw_90llrllllrr : Nat → Option Op := fun n => cond (Nat.beq n 542) (some (oPush 90 543 (.int (Int32.ofInt (1))))) (cond (Nat.beq n 543) (some (oBin sdv 90 544 0)) (cond (Nat.beq n 544) (some (oIald 90 545)) (none)))
noncomputable def rw_90llrllllr : Nat → Option Op := fun n => cond (Nat.blt n 542) (rw_90llrllllrl n) (rw_90llrllllrr n)
noncomputable def rw_90llrllll : Nat → Option Op := fun n => cond (Nat.blt n 538) (rw_90llrlllll n) (rw_90llrllllr n)
noncomputable def rw_90llrlllrll : Nat → Option Op := fun n => cond (Nat.beq n 545) (some (oLoad 90 546 0 4)) (cond (Nat.beq n 546) (some (oLoad 90 548 5 0)) (cond (Nat.beq n 548) (some (oPush 90 549 (.int (Int32.ofInt (2))))) (none)))
noncomputable def rw_90llrlllrlr : Nat → Option Op := fun n => cond (Nat.beq n 549) (some (oBin sdv 90 550 0)) (cond (Nat.beq n 550) (some (oIald 90 551)) (cond (Nat.beq n 551) (some (oLoad 90 552 3 4)) (none)))
noncomputable def rw_90llrlllrl : Nat → Option Op := fun n => cond (Nat.blt n 549) (rw_90llrlllrll n) (rw_90llrlllrlr n)
noncomputable def rw_90llrlllrrl : Nat → Option Op := fun n => cond (Nat.beq n 552) (some (oCall (runC 97) 90 555 1 4 0 5 hdN)) (cond (Nat.beq n 555) (some (oStore 90 557 6 0)) (cond (Nat.beq n 557) (some (oLoad 90 558 2 4)) (none)))
noncomputable def rw_90llrlllrrr : Nat → Option Op := fun n => cond (Nat.beq n 558) (some (oLoad 90 559 0 4)) (cond (Nat.beq n 559) (some (oLoad 90 561 5 0)) (cond (Nat.beq n 561) (some (oPush 90 562 (.int (Int32.ofInt (1))))) (none)))
noncomputable def rw_90llrlllrr : Nat → Option Op := fun n => cond (Nat.blt n 558) (rw_90llrlllrrl n) (rw_90llrlllrrr n)
noncomputable def rw_90llrlllr : Nat → Option Op := fun n => cond (Nat.blt n 552) (rw_90llrlllrl n) (rw_90llrlllrr n)
noncomputable def rw_90llrlll : Nat → Option Op := fun n => cond (Nat.blt n 545) (rw_90llrllll n) (rw_90llrlllr n)
noncomputable def rw_90llrllrlll : Nat → Option Op := fun n => cond (Nat.beq n 562) (some (oBin sdv 90 563 0)) (cond (Nat.beq n 563) (some (oIald 90 564)) (none))
noncomputable def rw_90llrllrllr : Nat → Option Op := fun n => cond (Nat.beq n 564) (some (oLoad 90 565 0 4)) (cond (Nat.beq n 565) (some (oLoad 90 567 5 0)) (cond (Nat.beq n 567) (some (oPush 90 568 (.int (Int32.ofInt (2))))) (none)))
noncomputable def rw_90llrllrll : Nat → Option Op := fun n => cond (Nat.blt n 564) (rw_90llrllrlll n) (rw_90llrllrllr n)
noncomputable def rw_90llrllrlrl : Nat → Option Op := fun n => cond (Nat.beq n 568) (some (oBin sdv 90 569 0)) (cond (Nat.beq n 569) (some (oIald 90 570)) (cond (Nat.beq n 570) (some (oCall (runC 155) 90 573 2 3 2 3 hdN)) (none)))
noncomputable def rw_90llrllrlrr : Nat → Option Op := fun n => cond (Nat.beq n 573) (some (oStore 90 575 7 0)) (cond (Nat.beq n 575) (some (oLoad 90 576 2 4)) (cond (Nat.beq n 576) (some (oCall (runC 170) 90 579 2 1 2 1 hdN)) (none)))
noncomputable def rw_90llrllrlr : Nat → Option Op := fun n => cond (Nat.blt n 573) (rw_90llrllrlrl n) (rw_90llrllrlrr n)
noncomputable def rw_90llrllrl : Nat → Option Op := fun n => cond (Nat.blt n 568) (rw_90llrllrll n) (rw_90llrllrlr n)
noncomputable def rw_90llrllrrll : Nat → Option Op := fun n => cond (Nat.beq n 579) (some (oLoad 90 581 6 0)) (cond (Nat.beq n 581) (some (oCmp2 90 584 586 .eq)) (cond (Nat.beq n 586) (some (oLoad 90 588 6 0)) (none)))
noncomputable def rw_90llrllrrlr : Nat → Option Op := fun n => cond (Nat.beq n 588) (some (oCmp1 90 591 603 .ne)) (cond (Nat.beq n 603) (some (oGoto 90 3276)) (cond (Nat.beq n 606) (some (oLoad 90 607 1 4)) (none)))
noncomputable def rw_90llrllrrl : Nat → Option Op := fun n => cond (Nat.blt n 588) (rw_90llrllrrll n) (rw_90llrllrrlr n)
noncomputable def rw_90llrllrrrl : Nat → Option Op := fun n => cond (Nat.beq n 607) (some (oLoad 90 608 3 4)) (cond (Nat.beq n 608) (some (oCall (runC 76) 90 611 1 2 0 3 hdN)) (cond (Nat.beq n 611) (some (oStore 90 613 6 0)) (none)))
noncomputable def rw_90llrllrrrr : Nat → Option Op := fun n => cond (Nat.beq n 613) (some (oLoad 90 614 2 4)) (cond (Nat.beq n 614) (some (oCall (runC 124) 90 617 2 1 2 8 hdN)) (cond (Nat.beq n 617) (some (oStore 90 619 7 0)) (none)))
noncomputable def rw_90llrllrrr : Nat → Option Op := fun n => cond (Nat.blt n 613) (rw_90llrllrrrl n) (rw_90llrllrrrr n)
noncomputable def rw_90llrllrr : Nat → Option Op := fun n => cond (Nat.blt n 607) (rw_90llrllrrl n) (rw_90llrllrrr n)
noncomputable def rw_90llrllr : Nat → Option Op := fun n => cond (Nat.blt n 579) (rw_90llrllrl n) (rw_90llrllrr n)
noncomputable def rw_90llrll : Nat → Option Op := fun n => cond (Nat.blt n 562) (rw_90llrlll n) (rw_90llrllr n)
noncomputable def rw_90llrlrllll : Nat → Option Op := fun n => cond (Nat.beq n 619) (some (oLoad 90 620 2 4)) (cond (Nat.beq n 620) (some (oCall (runC 170) 90 623 2 1 2 1 hdN)) (none))
noncomputable def rw_90llrlrlllr : Nat → Option Op := fun n => cond (Nat.beq n 623) (some (oLoad 90 625 6 0)) (cond (Nat.beq n 625) (some (oCmp2 90 628 630 .eq)) (cond (Nat.beq n 630) (some (oLoad 90 632 6 0)) (none)))
noncomputable def rw_90llrlrlll : Nat → Option Op := fun n => cond (Nat.blt n 623) (rw_90llrlrllll n) (rw_90llrlrlllr n)
noncomputable def rw_90llrlrllrl : Nat → Option Op := fun n => cond (Nat.beq n 632) (some (oCmp1 90 635 647 .ne)) (cond (Nat.beq n 647) (some (oGoto 90 3276)) (cond (Nat.beq n 650) (some (oLoad 90 651 1 4)) (none)))
noncomputable def rw_90llrlrllrr : Nat → Option Op := fun n => cond (Nat.beq n 651) (some (oLoad 90 652 0 4)) (cond (Nat.beq n 652) (some (oLoad 90 654 5 0)) (cond (Nat.beq n 654) (some (oPush 90 655 (.int (Int32.ofInt (1))))) (none)))
noncomputable def rw_90llrlrllr : Nat → Option Op := fun n => cond (Nat.blt n 651) (rw_90llrlrllrl n) (rw_90llrlrllrr n)
noncomputable def rw_90llrlrll : Nat → Option Op := fun n => cond (Nat.blt n 632) (rw_90llrlrlll n) (rw_90llrlrllr n)
noncomputable def rw_90llrlrlrll : Nat → Option Op := fun n => cond (Nat.beq n 655) (some (oBin sdv 90 656 0)) (cond (Nat.beq n 656) (some (oIald 90 657)) (cond (Nat.beq n 657) (some (oLoad 90 658 3 4)) (none)))
noncomputable def rw_90llrlrlrlr : Nat → Option Op := fun n => cond (Nat.beq n 658) (some (oCall (runC 78) 90 661 1 3 0 4 hdN)) (cond (Nat.beq n 661) (some (oStore 90 663 6 0)) (cond (Nat.beq n 663) (some (oLoad 90 664 2 4)) (none)))
noncomputable def rw_90llrlrlrl : Nat → Option Op := fun n => cond (Nat.blt n 658) (rw_90llrlrlrll n) (rw_90llrlrlrlr n)
noncomputable def rw_90llrlrlrrl : Nat → Option Op := fun n => cond (Nat.beq n 664) (some (oLoad 90 665 0 4)) (cond (Nat.beq n 665) (some (oLoad 90 667 5 0)) (cond (Nat.beq n 667) (some (oPush 90 668 (.int (Int32.ofInt (1))))) (none)))
noncomputable def rw_90llrlrlrrr : Nat → Option Op := fun n => cond (Nat.beq n 668) (some (oBin sdv 90 669 0)) (cond (Nat.beq n 669) (some (oIald 90 670)) (cond (Nat.beq n 670) (some (oCall (runC 126) 90 673 2 2 2 5 hdN)) (none)))
noncomputable def rw_90llrlrlrr : Nat → Option Op := fun n => cond (Nat.blt n 668) (rw_90llrlrlrrl n) (rw_90llrlrlrrr n)
noncomputable def rw_90llrlrlr : Nat → Option Op := fun n => cond (Nat.blt n 664) (rw_90llrlrlrl n) (rw_90llrlrlrr n)
noncomputable def rw_90llrlrl : Nat → Option Op := fun n => cond (Nat.blt n 655) (rw_90llrlrll n) (rw_90llrlrlr n)
noncomputable def rw_90llrlrrlll : Nat → Option Op := fun n => cond (Nat.beq n 673) (some (oStore 90 675 7 0)) (cond (Nat.beq n 675) (some (oLoad 90 676 2 4)) (cond (Nat.beq n 676) (some (oCall (runC 170) 90 679 2 1 2 1 hdN)) (none)))
noncomputable def rw_90llrlrrllr : Nat → Option Op := fun n => cond (Nat.beq n 679) (some (oLoad 90 681 6 0)) (cond (Nat.beq n 681) (some (oCmp2 90 684 686 .eq)) (cond (Nat.beq n 686) (some (oLoad 90 688 6 0)) (none)))
noncomputable def rw_90llrlrrll : Nat → Option Op := fun n => cond (Nat.blt n 679) (rw_90llrlrrlll n) (rw_90llrlrrllr n)
noncomputable def rw_90llrlrrlrl : Nat → Option Op := fun n => cond (Nat.beq n 688) (some (oCmp1 90 691 703 .ne)) (cond (Nat.beq n 703) (some (oGoto 90 3276)) (cond (Nat.beq n 706) (some (oLoad 90 707 1 4)) (none)))
noncomputable def rw_90llrlrrlrr : Nat → Option Op := fun n => cond (Nat.beq n 707) (some (oLoad 90 708 0 4)) (cond (Nat.beq n 708) (some (oLoad 90 710 5 0)) (cond (Nat.beq n 710) (some (oPush 90 711 (.int (Int32.ofInt (1))))) (none)))
noncomputable def rw_90llrlrrlr : Nat → Option Op := fun n => cond (Nat.blt n 707) (rw_90llrlrrlrl n) (rw_90llrlrrlrr n)
noncomputable def rw_90llrlrrl : Nat → Option Op := fun n => cond (Nat.blt n 688) (rw_90llrlrrll n) (rw_90llrlrrlr n)
noncomputable def rw_90llrlrrrll : Nat → Option Op := fun n => cond (Nat.beq n 711) (some (oBin sdv 90 712 0)) (cond (Nat.beq n 712) (some (oIald 90 713)) (cond (Nat.beq n 713) (some (oLoad 90 714 0 4)) (none)))
noncomputable def rw_90llrlrrrlr : Nat → Option Op := fun n => cond (Nat.beq n 714) (some (oLoad 90 716 5 0)) (cond (Nat.beq n 716) (some (oPush 90 717 (.int (Int32.ofInt (2))))) (cond (Nat.beq n 717) (some (oBin sdv 90 718 0)) (none)))
noncomputable def rw_90llrlrrrl : Nat → Option Op := fun n => cond (Nat.blt n 714) (rw_90llrlrrrll n) (rw_90llrlrrrlr n)
noncomputable def rw_90llrlrrrrl : Nat → Option Op := fun n => cond (Nat.beq n 718) (some (oIald 90 719)) (cond (Nat.beq n 719) (some (oLoad 90 720 3 4)) (cond (Nat.beq n 720) (some (oCall (runC 112) 90 723 1 4 0 5 hdN)) (none)))
noncomputable def rw_90llrlrrrrr : Nat → Option Op := fun n => cond (Nat.beq n 723) (some (oStore 90 725 6 0)) (cond (Nat.beq n 725) (some (oLoad 90 726 2 4)) (cond (Nat.beq n 726) (some (oLoad 90 727 0 4)) (none)))
noncomputable def rw_90llrlrrrr : Nat → Option Op := fun n => cond (Nat.blt n 723) (rw_90llrlrrrrl n) (rw_90llrlrrrrr n)
noncomputable def rw_90llrlrrr : Nat → Option Op := fun n => cond (Nat.blt n 718) (rw_90llrlrrrl n) (rw_90llrlrrrr n)
noncomputable def rw_90llrlrr : Nat → Option Op := fun n => cond (Nat.blt n 711) (rw_90llrlrrl n) (rw_90llrlrrr n)
noncomputable def rw_90llrlr : Nat → Option Op := fun n => cond (Nat.blt n 673) (rw_90llrlrl n) (rw_90llrlrr n)
noncomputable def rw_90llrl : Nat → Option Op := fun n => cond (Nat.blt n 619) (rw_90llrll n) (rw_90llrlr n)
noncomputable def rw_90llrrlllll : Nat → Option Op := fun n => cond (Nat.beq n 727) (some (oLoad 90 729 5 0)) (cond (Nat.beq n 729) (some (oPush 90 730 (.int (Int32.ofInt (1))))) (none))
noncomputable def rw_90llrrllllr : Nat → Option Op := fun n => cond (Nat.beq n 730) (some (oBin sdv 90 731 0)) (cond (Nat.beq n 731) (some (oIald 90 732)) (cond (Nat.beq n 732) (some (oLoad 90 733 0 4)) (none)))
noncomputable def rw_90llrrllll : Nat → Option Op := fun n => cond (Nat.blt n 730) (rw_90llrrlllll n) (rw_90llrrllllr n)
noncomputable def rw_90llrrlllrl : Nat → Option Op := fun n => cond (Nat.beq n 733) (some (oLoad 90 735 5 0)) (cond (Nat.beq n 735) (some (oPush 90 736 (.int (Int32.ofInt (2))))) (cond (Nat.beq n 736) (some (oBin sdv 90 737 0)) (none)))
noncomputable def rw_90llrrlllrr : Nat → Option Op := fun n => cond (Nat.beq n 737) (some (oIald 90 738)) (cond (Nat.beq n 738) (some (oCall (runC 172) 90 741 2 3 2 3 hdN)) (cond (Nat.beq n 741) (some (oStore 90 743 7 0)) (none)))
noncomputable def rw_90llrrlllr : Nat → Option Op := fun n => cond (Nat.blt n 737) (rw_90llrrlllrl n) (rw_90llrrlllrr n)
noncomputable def rw_90llrrlll : Nat → Option Op := fun n => cond (Nat.blt n 733) (rw_90llrrllll n) (rw_90llrrlllr n)
noncomputable def rw_90llrrllrll : Nat → Option Op := fun n => cond (Nat.beq n 743) (some (oLoad 90 744 2 4)) (cond (Nat.beq n 744) (some (oCall (runC 170) 90 747 2 1 2 1 hdN)) (cond (Nat.beq n 747) (some (oLoad 90 749 6 0)) (none)))
noncomputable def rw_90llrrllrlr : Nat → Option Op := fun n => cond (Nat.beq n 749) (some (oCmp2 90 752 754 .eq)) (cond (Nat.beq n 754) (some (oLoad 90 756 6 0)) (cond (Nat.beq n 756) (some (oCmp1 90 759 771 .ne)) (none)))
noncomputable def rw_90llrrllrl : Nat → Option Op := fun n => cond (Nat.blt n 749) (rw_90llrrllrll n) (rw_90llrrllrlr n)
noncomputable def rw_90llrrllrrl : Nat → Option Op := fun n => cond (Nat.beq n 771) (some (oGoto 90 3276)) (cond (Nat.beq n 774) (some (oLoad 90 775 1 4)) (cond (Nat.beq n 775) (some (oLoad 90 776 0 4)) (none)))
noncomputable def rw_90llrrllrrr : Nat → Option Op := fun n => cond (Nat.beq n 776) (some (oLoad 90 778 5 0)) (cond (Nat.beq n 778) (some (oPush 90 779 (.int (Int32.ofInt (1))))) (cond (Nat.beq n 779) (some (oBin sdv 90 780 0)) (none)))
noncomputable def rw_90llrrllrr : Nat → Option Op := fun n => cond (Nat.blt n 776) (rw_90llrrllrrl n) (rw_90llrrllrrr n)
noncomputable def rw_90llrrllr : Nat → Option Op := fun n => cond (Nat.blt n 771) (rw_90llrrllrl n) (rw_90llrrllrr n)
noncomputable def rw_90llrrll : Nat → Option Op := fun n => cond (Nat.blt n 743) (rw_90llrrlll n) (rw_90llrrllr n)
noncomputable def rw_90llrrlrlll : Nat → Option Op := fun n => cond (Nat.beq n 780) (some (oIald 90 781)) (cond (Nat.beq n 781) (some (oLoad 90 782 3 4)) (none))
noncomputable def rw_90llrrlrllr : Nat → Option Op := fun n => cond (Nat.beq n 782) (some (oCall (runC 91) 90 785 1 3 0 4 hdN)) (cond (Nat.beq n 785) (some (oStore 90 787 6 0)) (cond (Nat.beq n 787) (some (oLoad 90 788 2 4)) (none)))
noncomputable def rw_90llrrlrll : Nat → Option Op := fun n => cond (Nat.blt n 782) (rw_90llrrlrlll n) (rw_90llrrlrllr n)
noncomputable def rw_90llrrlrlrl : Nat → Option Op := fun n => cond (Nat.beq n 788) (some (oLoad 90 789 0 4)) (cond (Nat.beq n 789) (some (oLoad 90 791 5 0)) (cond (Nat.beq n 791) (some (oPush 90 792 (.int (Int32.ofInt (1))))) (none)))
noncomputable def rw_90llrrlrlrr : Nat → Option Op := fun n => cond (Nat.beq n 792) (some (oBin sdv 90 793 0)) (cond (Nat.beq n 793) (some (oIald 90 794)) (cond (Nat.beq n 794) (some (oCall (runC 147) 90 797 2 2 2 2 hdN)) (none)))
noncomputable def rw_90llrrlrlr : Nat → Option Op := fun n => cond (Nat.blt n 792) (rw_90llrrlrlrl n) (rw_90llrrlrlrr n)
noncomputable def rw_90llrrlrl : Nat → Option Op := fun n => cond (Nat.blt n 788) (rw_90llrrlrll n) (rw_90llrrlrlr n)
noncomputable def rw_90llrrlrrll : Nat → Option Op := fun n => cond (Nat.beq n 797) (some (oStore 90 799 7 0)) (cond (Nat.beq n 799) (some (oLoad 90 800 2 4)) (cond (Nat.beq n 800) (some (oCall (runC 170) 90 803 2 1 2 1 hdN)) (none)))
noncomputable def rw_90llrrlrrlr : Nat → Option Op := fun n => cond (Nat.beq n 803) (some (oLoad 90 805 6 0)) (cond (Nat.beq n 805) (some (oCmp2 90 808 810 .eq)) (cond (Nat.beq n 810) (some (oLoad 90 812 6 0)) (none)))
noncomputable def rw_90llrrlrrl : Nat → Option Op := fun n => cond (Nat.blt n 803) (rw_90llrrlrrll n) (rw_90llrrlrrlr n)
noncomputable def rw_90llrrlrrrl : Nat → Option Op := fun n => cond (Nat.beq n 812) (some (oCmp1 90 815 827 .ne)) (cond (Nat.beq n 827) (some (oGoto 90 3276)) (cond (Nat.beq n 830) (some (oLoad 90 831 1 4)) (none)))
noncomputable def rw_90llrrlrrrr : Nat → Option Op := fun n => cond (Nat.beq n 831) (some (oLoad 90 832 3 4)) (cond (Nat.beq n 832) (some (oCall (runC 71) 90 835 1 2 0 3 hdN)) (cond (Nat.beq n 835) (some (oStore 90 837 6 0)) (none)))
noncomputable def rw_90llrrlrrr : Nat → Option Op := fun n => cond (Nat.blt n 831) (rw_90llrrlrrrl n) (rw_90llrrlrrrr n)
noncomputable def rw_90llrrlrr : Nat → Option Op := fun n => cond (Nat.blt n 812) (rw_90llrrlrrl n) (rw_90llrrlrrr n)
noncomputable def rw_90llrrlr : Nat → Option Op := fun n => cond (Nat.blt n 797) (rw_90llrrlrl n) (rw_90llrrlrr n)
noncomputable def rw_90llrrl : Nat → Option Op := fun n => cond (Nat.blt n 780) (rw_90llrrll n) (rw_90llrrlr n)
noncomputable def rw_90llrrrllll : Nat → Option Op := fun n => cond (Nat.beq n 837) (some (oLoad 90 838 2 4)) (cond (Nat.beq n 838) (some (oCall (runC 118) 90 841 2 1 2 1 hdN)) (none))
noncomputable def rw_90llrrrlllr : Nat → Option Op := fun n => cond (Nat.beq n 841) (some (oStore 90 843 7 0)) (cond (Nat.beq n 843) (some (oLoad 90 844 2 4)) (cond (Nat.beq n 844) (some (oCall (runC 170) 90 847 2 1 2 1 hdN)) (none)))
noncomputable def rw_90llrrrlll : Nat → Option Op := fun n => cond (Nat.blt n 841) (rw_90llrrrllll n) (rw_90llrrrlllr n)
noncomputable def rw_90llrrrllrl : Nat → Option Op := fun n => cond (Nat.beq n 847) (some (oLoad 90 849 6 0)) (cond (Nat.beq n 849) (some (oCmp2 90 852 854 .eq)) (cond (Nat.beq n 854) (some (oLoad 90 856 6 0)) (none)))
noncomputable def rw_90llrrrllrr : Nat → Option Op := fun n => cond (Nat.beq n 856) (some (oCmp1 90 859 871 .ne)) (cond (Nat.beq n 871) (some (oGoto 90 3276)) (cond (Nat.beq n 874) (some (oLoad 90 875 1 4)) (none)))
noncomputable def rw_90llrrrllr : Nat → Option Op := fun n => cond (Nat.blt n 856) (rw_90llrrrllrl n) (rw_90llrrrllrr n)
noncomputable def rw_90llrrrll : Nat → Option Op := fun n => cond (Nat.blt n 847) (rw_90llrrrlll n) (rw_90llrrrllr n)
noncomputable def rw_90llrrrlrll : Nat → Option Op := fun n => cond (Nat.beq n 875) (some (oLoad 90 876 0 4)) (cond (Nat.beq n 876) (some (oLoad 90 878 5 0)) (cond (Nat.beq n 878) (some (oPush 90 879 (.int (Int32.ofInt (1))))) (none)))
noncomputable def rw_90llrrrlrlr : Nat → Option Op := fun n => cond (Nat.beq n 879) (some (oBin sdv 90 880 0)) (cond (Nat.beq n 880) (some (oIald 90 881)) (cond (Nat.beq n 881) (some (oLoad 90 882 0 4)) (none)))
noncomputable def rw_90llrrrlrl : Nat → Option Op := fun n => cond (Nat.blt n 879) (rw_90llrrrlrll n) (rw_90llrrrlrlr n)
noncomputable def rw_90llrrrlrrl : Nat → Option Op := fun n => cond (Nat.beq n 882) (some (oLoad 90 884 5 0)) (cond (Nat.beq n 884) (some (oPush 90 885 (.int (Int32.ofInt (2))))) (cond (Nat.beq n 885) (some (oBin sdv 90 886 0)) (none)))
noncomputable def rw_90llrrrlrrr : Nat → Option Op := fun n => cond (Nat.beq n 886) (some (oIald 90 887)) (cond (Nat.beq n 887) (some (oCmp1 90 890 894 .eq)) (cond (Nat.beq n 890) (some (oPush 90 891 (.int (Int32.ofInt (1))))) (none)))
noncomputable def rw_90llrrrlrr : Nat → Option Op := fun n => cond (Nat.blt n 886) (rw_90llrrrlrrl n) (rw_90llrrrlrrr n)
noncomputable def rw_90llrrrlr : Nat → Option Op := fun n => cond (Nat.blt n 882) (rw_90llrrrlrl n) (rw_90llrrrlrr n)
noncomputable def rw_90llrrrl : Nat → Option Op := fun n => cond (Nat.blt n 875) (rw_90llrrrll n) (rw_90llrrrlr n)
noncomputable def rw_90llrrrrlll : Nat → Option Op := fun n => cond (Nat.beq n 891) (some (oGoto 90 895)) (cond (Nat.beq n 894) (some (oPush 90 895 (.int (Int32.ofInt (0))))) (cond (Nat.beq n 895) (some (oLoad 90 896 3 4)) (none)))
noncomputable def rw_90llrrrrllr : Nat → Option Op := fun n => cond (Nat.beq n 896) (some (oCall (runC 100) 90 899 1 4 0 5 hdN)) (cond (Nat.beq n 899) (some (oStore 90 901 6 0)) (cond (Nat.beq n 901) (some (oLoad 90 902 2 4)) (none)))
noncomputable def rw_90llrrrrll : Nat → Option Op := fun n => cond (Nat.blt n 896) (rw_90llrrrrlll n) (rw_90llrrrrllr n)
noncomputable def rw_90llrrrrlrl : Nat → Option Op := fun n => cond (Nat.beq n 902) (some (oLoad 90 903 0 4)) (cond (Nat.beq n 903) (some (oLoad 90 905 5 0)) (cond (Nat.beq n 905) (some (oPush 90 906 (.int (Int32.ofInt (1))))) (none)))
noncomputable def rw_90llrrrrlrr : Nat → Option Op := fun n => cond (Nat.beq n 906) (some (oBin sdv 90 907 0)) (cond (Nat.beq n 907) (some (oIald 90 908)) (cond (Nat.beq n 908) (some (oLoad 90 909 0 4)) (none)))
noncomputable def rw_90llrrrrlr : Nat → Option Op := fun n => cond (Nat.blt n 906) (rw_90llrrrrlrl n) (rw_90llrrrrlrr n)
noncomputable def rw_90llrrrrl : Nat → Option Op := fun n => cond (Nat.blt n 902) (rw_90llrrrrll n) (rw_90llrrrrlr n)
noncomputable def rw_90llrrrrrll : Nat → Option Op := fun n => cond (Nat.beq n 909) (some (oLoad 90 911 5 0)) (cond (Nat.beq n 911) (some (oPush 90 912 (.int (Int32.ofInt (2))))) (cond (Nat.beq n 912) (some (oBin sdv 90 913 0)) (none)))
noncomputable def rw_90llrrrrrlr : Nat → Option Op := fun n => cond (Nat.beq n 913) (some (oIald 90 914)) (cond (Nat.beq n 914) (some (oCmp1 90 917 921 .eq)) (cond (Nat.beq n 917) (some (oPush 90 918 (.int (Int32.ofInt (1))))) (none)))
noncomputable def rw_90llrrrrrl : Nat → Option Op := fun n => cond (Nat.blt n 913) (rw_90llrrrrrll n) (rw_90llrrrrrlr n)
noncomputable def rw_90llrrrrrrl : Nat → Option Op := fun n => cond (Nat.beq n 918) (some (oGoto 90 922)) (cond (Nat.beq n 921) (some (oPush 90 922 (.int (Int32.ofInt (0))))) (cond (Nat.beq n 922) (some (oCall (runC 159) 90 925 2 3 2 4 hdN)) (none)))
noncomputable def rw_90llrrrrrrr : Nat → Option Op := fun n => cond (Nat.beq n 925) (some (oStore 90 927 7 0)) (cond (Nat.beq n 927) (some (oLoad 90 928 2 4)) (cond (Nat.beq n 928) (some (oCall (runC 170) 90 931 2 1 2 1 hdN)) (none)))
noncomputable def rw_90llrrrrrr : Nat → Option Op := fun n => cond (Nat.blt n 925) (rw_90llrrrrrrl n) (rw_90llrrrrrrr n)
noncomputable def rw_90llrrrrr : Nat → Option Op := fun n => cond (Nat.blt n 918) (rw_90llrrrrrl n) (rw_90llrrrrrr n)
noncomputable def rw_90llrrrr : Nat → Option Op := fun n => cond (Nat.blt n 909) (rw_90llrrrrl n) (rw_90llrrrrr n)
noncomputable def rw_90llrrr : Nat → Option Op := fun n => cond (Nat.blt n 891) (rw_90llrrrl n) (rw_90llrrrr n)
noncomputable def rw_90llrr : Nat → Option Op := fun n => cond (Nat.blt n 837) (rw_90llrrl n) (rw_90llrrr n)
noncomputable def rw_90llr : Nat → Option Op := fun n => cond (Nat.blt n 727) (rw_90llrl n) (rw_90llrr n)
noncomputable def rw_90ll : Nat → Option Op := fun n => cond (Nat.blt n 511) (rw_90lll n) (rw_90llr n)
noncomputable def rw_90lrlllllll : Nat → Option Op := fun n => cond (Nat.beq n 931) (some (oLoad 90 933 6 0)) (cond (Nat.beq n 933) (some (oCmp2 90 936 938 .eq)) (none))
noncomputable def rw_90lrllllllr : Nat → Option Op := fun n => cond (Nat.beq n 938) (some (oLoad 90 940 6 0)) (cond (Nat.beq n 940) (some (oCmp1 90 943 955 .ne)) (cond (Nat.beq n 955) (some (oGoto 90 3276)) (none)))
noncomputable def rw_90lrllllll : Nat → Option Op := fun n => cond (Nat.blt n 938) (rw_90lrlllllll n) (rw_90lrllllllr n)
noncomputable def rw_90lrlllllrl : Nat → Option Op := fun n => cond (Nat.beq n 958) (some (oLoad 90 959 1 4)) (cond (Nat.beq n 959) (some (oLoad 90 960 0 4)) (cond (Nat.beq n 960) (some (oLoad 90 962 5 0)) (none)))
noncomputable def rw_90lrlllllrr : Nat → Option Op := fun n => cond (Nat.beq n 962) (some (oPush 90 963 (.int (Int32.ofInt (1))))) (cond (Nat.beq n 963) (some (oBin sdv 90 964 0)) (cond (Nat.beq n 964) (some (oIald 90 965)) (none)))
noncomputable def rw_90lrlllllr : Nat → Option Op := fun n => cond (Nat.blt n 962) (rw_90lrlllllrl n) (rw_90lrlllllrr n)
noncomputable def rw_90lrlllll : Nat → Option Op := fun n => cond (Nat.blt n 958) (rw_90lrllllll n) (rw_90lrlllllr n)
noncomputable def rw_90lrllllrll : Nat → Option Op := fun n => cond (Nat.beq n 965) (some (oLoad 90 966 3 4)) (cond (Nat.beq n 966) (some (oCall (runC 99) 90 969 1 3 0 4 hdN)) (cond (Nat.beq n 969) (some (oStore 90 971 6 0)) (none)))
noncomputable def rw_90lrllllrlr : Nat → Option Op := fun n => cond (Nat.beq n 971) (some (oLoad 90 972 2 4)) (cond (Nat.beq n 972) (some (oLoad 90 973 0 4)) (cond (Nat.beq n 973) (some (oLoad 90 975 5 0)) (none)))
noncomputable def rw_90lrllllrl : Nat → Option Op := fun n => cond (Nat.blt n 971) (rw_90lrllllrll n) (rw_90lrllllrlr n)
noncomputable def rw_90lrllllrrl : Nat → Option Op := fun n => cond (Nat.beq n 975) (some (oPush 90 976 (.int (Int32.ofInt (1))))) (cond (Nat.beq n 976) (some (oBin sdv 90 977 0)) (cond (Nat.beq n 977) (some (oIald 90 978)) (none)))
noncomputable def rw_90lrllllrrr : Nat → Option Op := fun n => cond (Nat.beq n 978) (some (oCall (runC 157) 90 981 2 2 2 2 hdN)) (cond (Nat.beq n 981) (some (oStore 90 983 7 0)) (cond (Nat.beq n 983) (some (oLoad 90 984 2 4)) (none)))
noncomputable def rw_90lrllllrr : Nat → Option Op := fun n => cond (Nat.blt n 978) (rw_90lrllllrrl n) (rw_90lrllllrrr n)
noncomputable def rw_90lrllllr : Nat → Option Op := fun n => cond (Nat.blt n 975) (rw_90lrllllrl n) (rw_90lrllllrr n)
noncomputable def rw_90lrllll : Nat → Option Op := fun n => cond (Nat.blt n 965) (rw_90lrlllll n) (rw_90lrllllr n)
noncomputable def rw_90lrlllrlll : Nat → Option Op := fun n => cond (Nat.beq n 984) (some (oCall (runC 170) 90 987 2 1 2 1 hdN)) (cond (Nat.beq n 987) (some (oLoad 90 989 6 0)) (none))
noncomputable def rw_90lrlllrllr : Nat → Option Op := fun n => cond (Nat.beq n 989) (some (oCmp2 90 992 994 .eq)) (cond (Nat.beq n 994) (some (oLoad 90 996 6 0)) (cond (Nat.beq n 996) (some (oCmp1 90 999 1011 .ne)) (none)))
noncomputable def rw_90lrlllrll : Nat → Option Op := fun n => cond (Nat.blt n 989) (rw_90lrlllrlll n) (rw_90lrlllrllr n)
noncomputable def rw_90lrlllrlrl : Nat → Option Op := fun n => cond (Nat.beq n 1011) (some (oGoto 90 3276)) (cond (Nat.beq n 1014) (some (oLoad 90 1015 1 4)) (cond (Nat.beq n 1015) (some (oLoad 90 1016 0 4)) (none)))
noncomputable def rw_90lrlllrlrr : Nat → Option Op := fun n => cond (Nat.beq n 1016) (some (oLoad 90 1018 5 0)) (cond (Nat.beq n 1018) (some (oPush 90 1019 (.int (Int32.ofInt (1))))) (cond (Nat.beq n 1019) (some (oBin sdv 90 1020 0)) (none)))
noncomputable def rw_90lrlllrlr : Nat → Option Op := fun n => cond (Nat.blt n 1016) (rw_90lrlllrlrl n) (rw_90lrlllrlrr n)
noncomputable def rw_90lrlllrl : Nat → Option Op := fun n => cond (Nat.blt n 1011) (rw_90lrlllrll n) (rw_90lrlllrlr n)
noncomputable def rw_90lrlllrrll : Nat → Option Op := fun n => cond (Nat.beq n 1020) (some (oIald 90 1021)) (cond (Nat.beq n 1021) (some (oLoad 90 1022 3 4)) (cond (Nat.beq n 1022) (some (oCall (runC 108) 90 1025 1 3 0 4 hdN)) (none)))
noncomputable def rw_90lrlllrrlr : Nat → Option Op := fun n => cond (Nat.beq n 1025) (some (oStore 90 1027 6 0)) (cond (Nat.beq n 1027) (some (oLoad 90 1028 2 4)) (cond (Nat.beq n 1028) (some (oLoad 90 1029 0 4)) (none)))
noncomputable def rw_90lrlllrrl : Nat → Option Op := fun n => cond (Nat.blt n 1025) (rw_90lrlllrrll n) (rw_90lrlllrrlr n)
noncomputable def rw_90lrlllrrrl : Nat → Option Op := fun n => cond (Nat.beq n 1029) (some (oLoad 90 1031 5 0)) (cond (Nat.beq n 1031) (some (oPush 90 1032 (.int (Int32.ofInt (1))))) (cond (Nat.beq n 1032) (some (oBin sdv 90 1033 0)) (none)))
noncomputable def rw_90lrlllrrrr : Nat → Option Op := fun n => cond (Nat.beq n 1033) (some (oIald 90 1034)) (cond (Nat.beq n 1034) (some (oCall (runC 167) 90 1037 2 2 2 2 hdN)) (cond (Nat.beq n 1037) (some (oStore 90 1039 7 1)) (none)))
noncomputable def rw_90lrlllrrr : Nat → Option Op := fun n => cond (Nat.blt n 1033) (rw_90lrlllrrrl n) (rw_90lrlllrrrr n)
noncomputable def rw_90lrlllrr : Nat → Option Op := fun n => cond (Nat.blt n 1029) (rw_90lrlllrrl n) (rw_90lrlllrrr n)
noncomputable def rw_90lrlllr : Nat → Option Op := fun n => cond (Nat.blt n 1020) (rw_90lrlllrl n) (rw_90lrlllrr n)
noncomputable def rw_90lrlll : Nat → Option Op := fun n => cond (Nat.blt n 984) (rw_90lrllll n) (rw_90lrlllr n)
noncomputable def rw_90lrllrllll : Nat → Option Op := fun n => cond (Nat.beq n 1039) (some (oLoad 90 1040 2 4)) (cond (Nat.beq n 1040) (some (oCall (runC 170) 90 1043 2 1 2 1 hdN)) (none))
noncomputable def rw_90lrllrlllr : Nat → Option Op := fun n => cond (Nat.beq n 1043) (some (oLoad 90 1045 6 0)) (cond (Nat.beq n 1045) (some (oCmp2 90 1048 1050 .eq)) (cond (Nat.beq n 1050) (some (oLoad 90 1052 6 0)) (none)))
noncomputable def rw_90lrllrlll : Nat → Option Op := fun n => cond (Nat.blt n 1043) (rw_90lrllrllll n) (rw_90lrllrlllr n)
noncomputable def rw_90lrllrllrl : Nat → Option Op := fun n => cond (Nat.beq n 1052) (some (oCmp1 90 1055 1066 .ne)) (cond (Nat.beq n 1066) (some (oGoto 90 3276)) (cond (Nat.beq n 1069) (some (oLoad 90 1070 1 4)) (none)))
noncomputable def rw_90lrllrllrr : Nat → Option Op := fun n => cond (Nat.beq n 1070) (some (oLoad 90 1071 0 4)) (cond (Nat.beq n 1071) (some (oLoad 90 1073 5 0)) (cond (Nat.beq n 1073) (some (oPush 90 1074 (.int (Int32.ofInt (1))))) (none)))
noncomputable def rw_90lrllrllr : Nat → Option Op := fun n => cond (Nat.blt n 1070) (rw_90lrllrllrl n) (rw_90lrllrllrr n)
noncomputable def rw_90lrllrll : Nat → Option Op := fun n => cond (Nat.blt n 1052) (rw_90lrllrlll n) (rw_90lrllrllr n)
noncomputable def rw_90lrllrlrll : Nat → Option Op := fun n => cond (Nat.beq n 1074) (some (oBin sdv 90 1075 0)) (cond (Nat.beq n 1075) (some (oIald 90 1076)) (cond (Nat.beq n 1076) (some (oLoad 90 1077 3 4)) (none)))
noncomputable def rw_90lrllrlrlr : Nat → Option Op := fun n => cond (Nat.beq n 1077) (some (oCall (runC 73) 90 1080 1 3 0 4 hdN)) (cond (Nat.beq n 1080) (some (oStore 90 1082 6 0)) (cond (Nat.beq n 1082) (some (oLoad 90 1083 2 4)) (none)))
noncomputable def rw_90lrllrlrl : Nat → Option Op := fun n => cond (Nat.blt n 1077) (rw_90lrllrlrll n) (rw_90lrllrlrlr n)
noncomputable def rw_90lrllrlrrl : Nat → Option Op := fun n => cond (Nat.beq n 1083) (some (oLoad 90 1084 0 4)) (cond (Nat.beq n 1084) (some (oLoad 90 1086 5 0)) (cond (Nat.beq n 1086) (some (oPush 90 1087 (.int (Int32.ofInt (1))))) (none)))
noncomputable def rw_90lrllrlrrr : Nat → Option Op := fun n => cond (Nat.beq n 1087) (some (oBin sdv 90 1088 0)) (cond (Nat.beq n 1088) (some (oIald 90 1089)) (cond (Nat.beq n 1089) (some (oCall (runC 120) 90 1092 2 2 2 6 hdN)) (none)))
noncomputable def rw_90lrllrlrr : Nat → Option Op := fun n => cond (Nat.blt n 1087) (rw_90lrllrlrrl n) (rw_90lrllrlrrr n)
noncomputable def rw_90lrllrlr : Nat → Option Op := fun n => cond (Nat.blt n 1083) (rw_90lrllrlrl n) (rw_90lrllrlrr n)
noncomputable def rw_90lrllrl : Nat → Option Op := fun n => cond (Nat.blt n 1074) (rw_90lrllrll n) (rw_90lrllrlr n)
noncomputable def rw_90lrllrrlll : Nat → Option Op := fun n => cond (Nat.beq n 1092) (some (oStore 90 1094 7 0)) (cond (Nat.beq n 1094) (some (oLoad 90 1095 2 4)) (none))
noncomputable def rw_90lrllrrllr : Nat → Option Op := fun n => cond (Nat.beq n 1095) (some (oCall (runC 170) 90 1098 2 1 2 1 hdN)) (cond (Nat.beq n 1098) (some (oLoad 90 1100 6 0)) (cond (Nat.beq n 1100) (some (oCmp2 90 1103 1105 .eq)) (none)))
noncomputable def rw_90lrllrrll : Nat → Option Op := fun n => cond (Nat.blt n 1095) (rw_90lrllrrlll n) (rw_90lrllrrllr n)
noncomputable def rw_90lrllrrlrl : Nat → Option Op := fun n => cond (Nat.beq n 1105) (some (oLoad 90 1107 6 0)) (cond (Nat.beq n 1107) (some (oCmp1 90 1110 1122 .ne)) (cond (Nat.beq n 1122) (some (oGoto 90 3276)) (none)))
noncomputable def rw_90lrllrrlrr : Nat → Option Op := fun n => cond (Nat.beq n 1125) (some (oLoad 90 1126 1 4)) (cond (Nat.beq n 1126) (some (oLoad 90 1127 0 4)) (cond (Nat.beq n 1127) (some (oLoad 90 1129 5 0)) (none)))
noncomputable def rw_90lrllrrlr : Nat → Option Op := fun n => cond (Nat.blt n 1125) (rw_90lrllrrlrl n) (rw_90lrllrrlrr n)
noncomputable def rw_90lrllrrl : Nat → Option Op := fun n => cond (Nat.blt n 1105) (rw_90lrllrrll n) (rw_90lrllrrlr n)
noncomputable def rw_90lrllrrrll : Nat → Option Op := fun n => cond (Nat.beq n 1129) (some (oPush 90 1130 (.int (Int32.ofInt (1))))) (cond (Nat.beq n 1130) (some (oBin sdv 90 1131 0)) (cond (Nat.beq n 1131) (some (oIald 90 1132)) (none)))
noncomputable def rw_90lrllrrrlr : Nat → Option Op := fun n => cond (Nat.beq n 1132) (some (oLoad 90 1133 0 4)) (cond (Nat.beq n 1133) (some (oLoad 90 1135 5 0)) (cond (Nat.beq n 1135) (some (oPush 90 1136 (.int (Int32.ofInt (2))))) (none)))
noncomputable def rw_90lrllrrrl : Nat → Option Op := fun n => cond (Nat.blt n 1132) (rw_90lrllrrrll n) (rw_90lrllrrrlr n)
noncomputable def rw_90lrllrrrrl : Nat → Option Op := fun n => cond (Nat.beq n 1136) (some (oBin sdv 90 1137 0)) (cond (Nat.beq n 1137) (some (oIald 90 1138)) (cond (Nat.beq n 1138) (some (oLoad 90 1139 0 4)) (none)))
noncomputable def rw_90lrllrrrrr : Nat → Option Op := fun n => cond (Nat.beq n 1139) (some (oLoad 90 1141 5 0)) (cond (Nat.beq n 1141) (some (oPush 90 1142 (.int (Int32.ofInt (3))))) (cond (Nat.beq n 1142) (some (oBin sdv 90 1143 0)) (none)))
noncomputable def rw_90lrllrrrr : Nat → Option Op := fun n => cond (Nat.blt n 1139) (rw_90lrllrrrrl n) (rw_90lrllrrrrr n)
noncomputable def rw_90lrllrrr : Nat → Option Op := fun n => cond (Nat.blt n 1136) (rw_90lrllrrrl n) (rw_90lrllrrrr n)
noncomputable def rw_90lrllrr : Nat → Option Op := fun n => cond (Nat.blt n 1129) (rw_90lrllrrl n) (rw_90lrllrrr n)
noncomputable def rw_90lrllr : Nat → Option Op := fun n => cond (Nat.blt n 1092) (rw_90lrllrl n) (rw_90lrllrr n)
noncomputable def rw_90lrll : Nat → Option Op := fun n => cond (Nat.blt n 1039) (rw_90lrlll n) (rw_90lrllr n)
noncomputable def rw_90lrlrlllll : Nat → Option Op := fun n => cond (Nat.beq n 1143) (some (oIald 90 1144)) (cond (Nat.beq n 1144) (some (oCmp1 90 1147 1151 .eq)) (none))
noncomputable def rw_90lrlrllllr : Nat → Option Op := fun n => cond (Nat.beq n 1147) (some (oPush 90 1148 (.int (Int32.ofInt (1))))) (cond (Nat.beq n 1148) (some (oGoto 90 1152)) (cond (Nat.beq n 1151) (some (oPush 90 1152 (.int (Int32.ofInt (0))))) (none)))
noncomputable def rw_90lrlrllll : Nat → Option Op := fun n => cond (Nat.blt n 1147) (rw_90lrlrlllll n) (rw_90lrlrllllr n)
noncomputable def rw_90lrlrlllrl : Nat → Option Op := fun n => cond (Nat.beq n 1152) (some (oLoad 90 1153 0 4)) (cond (Nat.beq n 1153) (some (oLoad 90 1155 5 0)) (cond (Nat.beq n 1155) (some (oPush 90 1156 (.int (Int32.ofInt (4))))) (none)))
noncomputable def rw_90lrlrlllrr : Nat → Option Op := fun n => cond (Nat.beq n 1156) (some (oBin sdv 90 1157 0)) (cond (Nat.beq n 1157) (some (oIald 90 1158)) (cond (Nat.beq n 1158) (some (oLoad 90 1159 3 4)) (none)))
noncomputable def rw_90lrlrlllr : Nat → Option Op := fun n => cond (Nat.blt n 1156) (rw_90lrlrlllrl n) (rw_90lrlrlllrr n)
noncomputable def rw_90lrlrlll : Nat → Option Op := fun n => cond (Nat.blt n 1152) (rw_90lrlrllll n) (rw_90lrlrlllr n)
noncomputable def rw_90lrlrllrll : Nat → Option Op := fun n => cond (Nat.beq n 1159) (some (oCall (runC 103) 90 1162 1 6 0 7 hdN)) (cond (Nat.beq n 1162) (some (oStore 90 1164 6 0)) (cond (Nat.beq n 1164) (some (oLoad 90 1165 2 4)) (none)))
noncomputable def rw_90lrlrllrlr : Nat → Option Op := fun n => cond (Nat.beq n 1165) (some (oLoad 90 1166 0 4)) (cond (Nat.beq n 1166) (some (oLoad 90 1168 5 0)) (cond (Nat.beq n 1168) (some (oPush 90 1169 (.int (Int32.ofInt (1))))) (none)))
noncomputable def rw_90lrlrllrl : Nat → Option Op := fun n => cond (Nat.blt n 1165) (rw_90lrlrllrll n) (rw_90lrlrllrlr n)
noncomputable def rw_90lrlrllrrl : Nat → Option Op := fun n => cond (Nat.beq n 1169) (some (oBin sdv 90 1170 0)) (cond (Nat.beq n 1170) (some (oIald 90 1171)) (cond (Nat.beq n 1171) (some (oLoad 90 1172 0 4)) (none)))
noncomputable def rw_90lrlrllrrr : Nat → Option Op := fun n => cond (Nat.beq n 1172) (some (oLoad 90 1174 5 0)) (cond (Nat.beq n 1174) (some (oPush 90 1175 (.int (Int32.ofInt (2))))) (cond (Nat.beq n 1175) (some (oBin sdv 90 1176 0)) (none)))
noncomputable def rw_90lrlrllrr : Nat → Option Op := fun n => cond (Nat.blt n 1172) (rw_90lrlrllrrl n) (rw_90lrlrllrrr n)
noncomputable def rw_90lrlrllr : Nat → Option Op := fun n => cond (Nat.blt n 1169) (rw_90lrlrllrl n) (rw_90lrlrllrr n)
noncomputable def rw_90lrlrll : Nat → Option Op := fun n => cond (Nat.blt n 1159) (rw_90lrlrlll n) (rw_90lrlrllr n)
noncomputable def rw_90lrlrlrlll : Nat → Option Op := fun n => cond (Nat.beq n 1176) (some (oIald 90 1177)) (cond (Nat.beq n 1177) (some (oLoad 90 1178 0 4)) (none))
noncomputable def rw_90lrlrlrllr : Nat → Option Op := fun n => cond (Nat.beq n 1178) (some (oLoad 90 1180 5 0)) (cond (Nat.beq n 1180) (some (oPush 90 1181 (.int (Int32.ofInt (3))))) (cond (Nat.beq n 1181) (some (oBin sdv 90 1182 0)) (none)))
noncomputable def rw_90lrlrlrll : Nat → Option Op := fun n => cond (Nat.blt n 1178) (rw_90lrlrlrlll n) (rw_90lrlrlrllr n)
noncomputable def rw_90lrlrlrlrl : Nat → Option Op := fun n => cond (Nat.beq n 1182) (some (oIald 90 1183)) (cond (Nat.beq n 1183) (some (oCmp1 90 1186 1190 .eq)) (cond (Nat.beq n 1186) (some (oPush 90 1187 (.int (Int32.ofInt (1))))) (none)))
noncomputable def rw_90lrlrlrlrr : Nat → Option Op := fun n => cond (Nat.beq n 1187) (some (oGoto 90 1191)) (cond (Nat.beq n 1190) (some (oPush 90 1191 (.int (Int32.ofInt (0))))) (cond (Nat.beq n 1191) (some (oLoad 90 1192 0 4)) (none)))
noncomputable def rw_90lrlrlrlr : Nat → Option Op := fun n => cond (Nat.blt n 1187) (rw_90lrlrlrlrl n) (rw_90lrlrlrlrr n)
noncomputable def rw_90lrlrlrl : Nat → Option Op := fun n => cond (Nat.blt n 1182) (rw_90lrlrlrll n) (rw_90lrlrlrlr n)
noncomputable def rw_90lrlrlrrll : Nat → Option Op := fun n => cond (Nat.beq n 1192) (some (oLoad 90 1194 5 0)) (cond (Nat.beq n 1194) (some (oPush 90 1195 (.int (Int32.ofInt (4))))) (cond (Nat.beq n 1195) (some (oBin sdv 90 1196 0)) (none)))
noncomputable def rw_90lrlrlrrlr : Nat → Option Op := fun n => cond (Nat.beq n 1196) (some (oIald 90 1197)) (cond (Nat.beq n 1197) (some (oCall (runC 162) 90 1200 2 5 2 5 hdN)) (cond (Nat.beq n 1200) (some (oStore 90 1202 7 0)) (none)))
noncomputable def rw_90lrlrlrrl : Nat → Option Op := fun n => cond (Nat.blt n 1196) (rw_90lrlrlrrll n) (rw_90lrlrlrrlr n)
noncomputable def rw_90lrlrlrrrl : Nat → Option Op := fun n => cond (Nat.beq n 1202) (some (oLoad 90 1203 2 4)) (cond (Nat.beq n 1203) (some (oCall (runC 170) 90 1206 2 1 2 1 hdN)) (cond (Nat.beq n 1206) (some (oLoad 90 1208 6 0)) (none)))
noncomputable def rw_90lrlrlrrrr : Nat → Option Op := fun n => cond (Nat.beq n 1208) (some (oCmp2 90 1211 1213 .eq)) (cond (Nat.beq n 1213) (some (oLoad 90 1215 6 0)) (cond (Nat.beq n 1215) (some (oCmp1 90 1218 1230 .ne)) (none)))
noncomputable def rw_90lrlrlrrr : Nat → Option Op := fun n => cond (Nat.blt n 1208) (rw_90lrlrlrrrl n) (rw_90lrlrlrrrr n)
noncomputable def rw_90lrlrlrr : Nat → Option Op := fun n => cond (Nat.blt n 1202) (rw_90lrlrlrrl n) (rw_90lrlrlrrr n)
noncomputable def rw_90lrlrlr : Nat → Option Op := fun n => cond (Nat.blt n 1192) (rw_90lrlrlrl n) (rw_90lrlrlrr n)
noncomputable def rw_90lrlrl : Nat → Option Op := fun n => cond (Nat.blt n 1176) (rw_90lrlrll n) (rw_90lrlrlr n)
noncomputable def rw_90lrlrrllll : Nat → Option Op := fun n => cond (Nat.beq n 1230) (some (oGoto 90 3276)) (cond (Nat.beq n 1233) (some (oLoad 90 1234 1 4)) (none))
noncomputable def rw_90lrlrrlllr : Nat → Option Op := fun n => cond (Nat.beq n 1234) (some (oLoad 90 1235 0 4)) (cond (Nat.beq n 1235) (some (oLoad 90 1237 5 0)) (cond (Nat.beq n 1237) (some (oPush 90 1238 (.int (Int32.ofInt (1))))) (none)))
noncomputable def rw_90lrlrrlll : Nat → Option Op := fun n => cond (Nat.blt n 1234) (rw_90lrlrrllll n) (rw_90lrlrrlllr n)
noncomputable def rw_90lrlrrllrl : Nat → Option Op := fun n => cond (Nat.beq n 1238) (some (oBin sdv 90 1239 0)) (cond (Nat.beq n 1239) (some (oIald 90 1240)) (cond (Nat.beq n 1240) (some (oLoad 90 1241 0 4)) (none)))
noncomputable def rw_90lrlrrllrr : Nat → Option Op := fun n => cond (Nat.beq n 1241) (some (oLoad 90 1243 5 0)) (cond (Nat.beq n 1243) (some (oPush 90 1244 (.int (Int32.ofInt (2))))) (cond (Nat.beq n 1244) (some (oBin sdv 90 1245 0)) (none)))
noncomputable def rw_90lrlrrllr : Nat → Option Op := fun n => cond (Nat.blt n 1241) (rw_90lrlrrllrl n) (rw_90lrlrrllrr n)
noncomputable def rw_90lrlrrll : Nat → Option Op := fun n => cond (Nat.blt n 1238) (rw_90lrlrrlll n) (rw_90lrlrrllr n)
noncomputable def rw_90lrlrrlrll : Nat → Option Op := fun n => cond (Nat.beq n 1245) (some (oIald 90 1246)) (cond (Nat.beq n 1246) (some (oLoad 90 1247 0 4)) (cond (Nat.beq n 1247) (some (oLoad 90 1249 5 0)) (none)))
noncomputable def rw_90lrlrrlrlr : Nat → Option Op := fun n => cond (Nat.beq n 1249) (some (oPush 90 1250 (.int (Int32.ofInt (3))))) (cond (Nat.beq n 1250) (some (oBin sdv 90 1251 0)) (cond (Nat.beq n 1251) (some (oIald 90 1252)) (none)))
noncomputable def rw_90lrlrrlrl : Nat → Option Op := fun n => cond (Nat.blt n 1249) (rw_90lrlrrlrll n) (rw_90lrlrrlrlr n)
noncomputable def rw_90lrlrrlrrl : Nat → Option Op := fun n => cond (Nat.beq n 1252) (some (oCmp1 90 1255 1259 .eq)) (cond (Nat.beq n 1255) (some (oPush 90 1256 (.int (Int32.ofInt (1))))) (cond (Nat.beq n 1256) (some (oGoto 90 1260)) (none)))
noncomputable def rw_90lrlrrlrrr : Nat → Option Op := fun n => cond (Nat.beq n 1259) (some (oPush 90 1260 (.int (Int32.ofInt (0))))) (cond (Nat.beq n 1260) (some (oLoad 90 1261 3 4)) (cond (Nat.beq n 1261) (some (oCall (runC 102) 90 1264 1 5 0 6 hdN)) (none)))
noncomputable def rw_90lrlrrlrr : Nat → Option Op := fun n => cond (Nat.blt n 1259) (rw_90lrlrrlrrl n) (rw_90lrlrrlrrr n)
noncomputable def rw_90lrlrrlr : Nat → Option Op := fun n => cond (Nat.blt n 1252) (rw_90lrlrrlrl n) (rw_90lrlrrlrr n)
noncomputable def rw_90lrlrrl : Nat → Option Op := fun n => cond (Nat.blt n 1245) (rw_90lrlrrll n) (rw_90lrlrrlr n)
noncomputable def rw_90lrlrrrlll : Nat → Option Op := fun n => cond (Nat.beq n 1264) (some (oStore 90 1266 6 0)) (cond (Nat.beq n 1266) (some (oLoad 90 1267 2 4)) (cond (Nat.beq n 1267) (some (oLoad 90 1268 0 4)) (none)))
noncomputable def rw_90lrlrrrllr : Nat → Option Op := fun n => cond (Nat.beq n 1268) (some (oLoad 90 1270 5 0)) (cond (Nat.beq n 1270) (some (oPush 90 1271 (.int (Int32.ofInt (1))))) (cond (Nat.beq n 1271) (some (oBin sdv 90 1272 0)) (none)))
noncomputable def rw_90lrlrrrll : Nat → Option Op := fun n => cond (Nat.blt n 1268) (rw_90lrlrrrlll n) (rw_90lrlrrrllr n)
noncomputable def rw_90lrlrrrlrl : Nat → Option Op := fun n => cond (Nat.beq n 1272) (some (oIald 90 1273)) (cond (Nat.beq n 1273) (some (oLoad 90 1274 0 4)) (cond (Nat.beq n 1274) (some (oLoad 90 1276 5 0)) (none)))
noncomputable def rw_90lrlrrrlrr : Nat → Option Op := fun n => cond (Nat.beq n 1276) (some (oPush 90 1277 (.int (Int32.ofInt (2))))) (cond (Nat.beq n 1277) (some (oBin sdv 90 1278 0)) (cond (Nat.beq n 1278) (some (oIald 90 1279)) (none)))
noncomputable def rw_90lrlrrrlr : Nat → Option Op := fun n => cond (Nat.blt n 1276) (rw_90lrlrrrlrl n) (rw_90lrlrrrlrr n)
noncomputable def rw_90lrlrrrl : Nat → Option Op := fun n => cond (Nat.blt n 1272) (rw_90lrlrrrll n) (rw_90lrlrrrlr n)
noncomputable def rw_90lrlrrrrll : Nat → Option Op := fun n => cond (Nat.beq n 1279) (some (oLoad 90 1280 0 4)) (cond (Nat.beq n 1280) (some (oLoad 90 1282 5 0)) (cond (Nat.beq n 1282) (some (oPush 90 1283 (.int (Int32.ofInt (3))))) (none)))
noncomputable def rw_90lrlrrrrlr : Nat → Option Op := fun n => cond (Nat.beq n 1283) (some (oBin sdv 90 1284 0)) (cond (Nat.beq n 1284) (some (oIald 90 1285)) (cond (Nat.beq n 1285) (some (oCmp1 90 1288 1292 .eq)) (none)))
noncomputable def rw_90lrlrrrrl : Nat → Option Op := fun n => cond (Nat.blt n 1283) (rw_90lrlrrrrll n) (rw_90lrlrrrrlr n)
noncomputable def rw_90lrlrrrrrl : Nat → Option Op := fun n => cond (Nat.beq n 1288) (some (oPush 90 1289 (.int (Int32.ofInt (1))))) (cond (Nat.beq n 1289) (some (oGoto 90 1293)) (cond (Nat.beq n 1292) (some (oPush 90 1293 (.int (Int32.ofInt (0))))) (none)))
noncomputable def rw_90lrlrrrrrr : Nat → Option Op := fun n => cond (Nat.beq n 1293) (some (oCall (runC 161) 90 1296 2 4 2 5 hdN)) (cond (Nat.beq n 1296) (some (oStore 90 1298 7 0)) (cond (Nat.beq n 1298) (some (oLoad 90 1299 2 4)) (none)))
noncomputable def rw_90lrlrrrrr : Nat → Option Op := fun n => cond (Nat.blt n 1293) (rw_90lrlrrrrrl n) (rw_90lrlrrrrrr n)
noncomputable def rw_90lrlrrrr : Nat → Option Op := fun n => cond (Nat.blt n 1288) (rw_90lrlrrrrl n) (rw_90lrlrrrrr n)
noncomputable def rw_90lrlrrr : Nat → Option Op := fun n => cond (Nat.blt n 1279) (rw_90lrlrrrl n) (rw_90lrlrrrr n)
noncomputable def rw_90lrlrr : Nat → Option Op := fun n => cond (Nat.blt n 1264) (rw_90lrlrrl n) (rw_90lrlrrr n)
noncomputable def rw_90lrlr : Nat → Option Op := fun n => cond (Nat.blt n 1230) (rw_90lrlrl n) (rw_90lrlrr n)
noncomputable def rw_90lrl : Nat → Option Op := fun n => cond (Nat.blt n 1143) (rw_90lrll n) (rw_90lrlr n)
noncomputable def rw_90lrrllllll : Nat → Option Op := fun n => cond (Nat.beq n 1299) (some (oCall (runC 170) 90 1302 2 1 2 1 hdN)) (cond (Nat.beq n 1302) (some (oLoad 90 1304 6 0)) (none))
noncomputable def rw_90lrrlllllr : Nat → Option Op := fun n => cond (Nat.beq n 1304) (some (oCmp2 90 1307 1309 .eq)) (cond (Nat.beq n 1309) (some (oLoad 90 1311 6 0)) (cond (Nat.beq n 1311) (some (oCmp1 90 1314 1326 .ne)) (none)))
noncomputable def rw_90lrrlllll : Nat → Option Op := fun n => cond (Nat.blt n 1304) (rw_90lrrllllll n) (rw_90lrrlllllr n)
noncomputable def rw_90lrrllllrl : Nat → Option Op := fun n => cond (Nat.beq n 1326) (some (oGoto 90 3276)) (cond (Nat.beq n 1329) (some (oLoad 90 1330 1 4)) (cond (Nat.beq n 1330) (some (oLoad 90 1331 0 4)) (none)))
noncomputable def rw_90lrrllllrr : Nat → Option Op := fun n => cond (Nat.beq n 1331) (some (oLoad 90 1333 5 0)) (cond (Nat.beq n 1333) (some (oPush 90 1334 (.int (Int32.ofInt (1))))) (cond (Nat.beq n 1334) (some (oBin sdv 90 1335 0)) (none)))
noncomputable def rw_90lrrllllr : Nat → Option Op := fun n => cond (Nat.blt n 1331) (rw_90lrrllllrl n) (rw_90lrrllllrr n)
noncomputable def rw_90lrrllll : Nat → Option Op := fun n => cond (Nat.blt n 1326) (rw_90lrrlllll n) (rw_90lrrllllr n)
noncomputable def rw_90lrrlllrll : Nat → Option Op := fun n => cond (Nat.beq n 1335) (some (oIald 90 1336)) (cond (Nat.beq n 1336) (some (oLoad 90 1337 0 4)) (cond (Nat.beq n 1337) (some (oLoad 90 1339 5 0)) (none)))
noncomputable def rw_90lrrlllrlr : Nat → Option Op := fun n => cond (Nat.beq n 1339) (some (oPush 90 1340 (.int (Int32.ofInt (2))))) (cond (Nat.beq n 1340) (some (oBin sdv 90 1341 0)) (cond (Nat.beq n 1341) (some (oIald 90 1342)) (none)))
noncomputable def rw_90lrrlllrl : Nat → Option Op := fun n => cond (Nat.blt n 1339) (rw_90lrrlllrll n) (rw_90lrrlllrlr n)
noncomputable def rw_90lrrlllrrl : Nat → Option Op := fun n => cond (Nat.beq n 1342) (some (oLoad 90 1343 0 4)) (cond (Nat.beq n 1343) (some (oLoad 90 1345 5 0)) (cond (Nat.beq n 1345) (some (oPush 90 1346 (.int (Int32.ofInt (3))))) (none)))
noncomputable def rw_90lrrlllrrr : Nat → Option Op := fun n => cond (Nat.beq n 1346) (some (oBin sdv 90 1347 0)) (cond (Nat.beq n 1347) (some (oIald 90 1348)) (cond (Nat.beq n 1348) (some (oCmp1 90 1351 1355 .eq)) (none)))
noncomputable def rw_90lrrlllrr : Nat → Option Op := fun n => cond (Nat.blt n 1346) (rw_90lrrlllrrl n) (rw_90lrrlllrrr n)
noncomputable def rw_90lrrlllr : Nat → Option Op := fun n => cond (Nat.blt n 1342) (rw_90lrrlllrl n) (rw_90lrrlllrr n)
noncomputable def rw_90lrrlll : Nat → Option Op := fun n => cond (Nat.blt n 1335) (rw_90lrrllll n) (rw_90lrrlllr n)
noncomputable def rw_90lrrllrlll : Nat → Option Op := fun n => cond (Nat.beq n 1351) (some (oPush 90 1352 (.int (Int32.ofInt (1))))) (cond (Nat.beq n 1352) (some (oGoto 90 1356)) (none))
noncomputable def rw_90lrrllrllr : Nat → Option Op := fun n => cond (Nat.beq n 1355) (some (oPush 90 1356 (.int (Int32.ofInt (0))))) (cond (Nat.beq n 1356) (some (oLoad 90 1357 3 4)) (cond (Nat.beq n 1357) (some (oCall (runC 113) 90 1360 1 5 0 6 hdN)) (none)))
noncomputable def rw_90lrrllrll : Nat → Option Op := fun n => cond (Nat.blt n 1355) (rw_90lrrllrlll n) (rw_90lrrllrllr n)
noncomputable def rw_90lrrllrlrl : Nat → Option Op := fun n => cond (Nat.beq n 1360) (some (oStore 90 1362 6 0)) (cond (Nat.beq n 1362) (some (oLoad 90 1363 2 4)) (cond (Nat.beq n 1363) (some (oLoad 90 1364 0 4)) (none)))
noncomputable def rw_90lrrllrlrr : Nat → Option Op := fun n => cond (Nat.beq n 1364) (some (oLoad 90 1366 5 0)) (cond (Nat.beq n 1366) (some (oPush 90 1367 (.int (Int32.ofInt (1))))) (cond (Nat.beq n 1367) (some (oBin sdv 90 1368 0)) (none)))
noncomputable def rw_90lrrllrlr : Nat → Option Op := fun n => cond (Nat.blt n 1364) (rw_90lrrllrlrl n) (rw_90lrrllrlrr n)
noncomputable def rw_90lrrllrl : Nat → Option Op := fun n => cond (Nat.blt n 1360) (rw_90lrrllrll n) (rw_90lrrllrlr n)
noncomputable def rw_90lrrllrrll : Nat → Option Op := fun n => cond (Nat.beq n 1368) (some (oIald 90 1369)) (cond (Nat.beq n 1369) (some (oLoad 90 1370 0 4)) (cond (Nat.beq n 1370) (some (oLoad 90 1372 5 0)) (none)))
noncomputable def rw_90lrrllrrlr : Nat → Option Op := fun n => cond (Nat.beq n 1372) (some (oPush 90 1373 (.int (Int32.ofInt (2))))) (cond (Nat.beq n 1373) (some (oBin sdv 90 1374 0)) (cond (Nat.beq n 1374) (some (oIald 90 1375)) (none)))
noncomputable def rw_90lrrllrrl : Nat → Option Op := fun n => cond (Nat.blt n 1372) (rw_90lrrllrrll n) (rw_90lrrllrrlr n)
noncomputable def rw_90lrrllrrrl : Nat → Option Op := fun n => cond (Nat.beq n 1375) (some (oLoad 90 1376 0 4)) (cond (Nat.beq n 1376) (some (oLoad 90 1378 5 0)) (cond (Nat.beq n 1378) (some (oPush 90 1379 (.int (Int32.ofInt (3))))) (none)))
noncomputable def rw_90lrrllrrrr : Nat → Option Op := fun n => cond (Nat.beq n 1379) (some (oBin sdv 90 1380 0)) (cond (Nat.beq n 1380) (some (oIald 90 1381)) (cond (Nat.beq n 1381) (some (oCmp1 90 1384 1388 .eq)) (none)))
noncomputable def rw_90lrrllrrr : Nat → Option Op := fun n => cond (Nat.blt n 1379) (rw_90lrrllrrrl n) (rw_90lrrllrrrr n)
noncomputable def rw_90lrrllrr : Nat → Option Op := fun n => cond (Nat.blt n 1375) (rw_90lrrllrrl n) (rw_90lrrllrrr n)
noncomputable def rw_90lrrllr : Nat → Option Op := fun n => cond (Nat.blt n 1368) (rw_90lrrllrl n) (rw_90lrrllrr n)
noncomputable def rw_90lrrll : Nat → Option Op := fun n => cond (Nat.blt n 1351) (rw_90lrrlll n) (rw_90lrrllr n)
noncomputable def rw_90lrrlrllll : Nat → Option Op := fun n => cond (Nat.beq n 1384) (some (oPush 90 1385 (.int (Int32.ofInt (1))))) (cond (Nat.beq n 1385) (some (oGoto 90 1389)) (none))
noncomputable def rw_90lrrlrlllr : Nat → Option Op := fun n => cond (Nat.beq n 1388) (some (oPush 90 1389 (.int (Int32.ofInt (0))))) (cond (Nat.beq n 1389) (some (oCall (runC 173) 90 1392 2 4 2 5 hdN)) (cond (Nat.beq n 1392) (some (oStore 90 1394 7 0)) (none)))
noncomputable def rw_90lrrlrlll : Nat → Option Op := fun n => cond (Nat.blt n 1388) (rw_90lrrlrllll n) (rw_90lrrlrlllr n)
noncomputable def rw_90lrrlrllrl : Nat → Option Op := fun n => cond (Nat.beq n 1394) (some (oLoad 90 1395 2 4)) (cond (Nat.beq n 1395) (some (oCall (runC 170) 90 1398 2 1 2 1 hdN)) (cond (Nat.beq n 1398) (some (oLoad 90 1400 6 0)) (none)))
noncomputable def rw_90lrrlrllrr : Nat → Option Op := fun n => cond (Nat.beq n 1400) (some (oCmp2 90 1403 1405 .eq)) (cond (Nat.beq n 1405) (some (oLoad 90 1407 6 0)) (cond (Nat.beq n 1407) (some (oCmp1 90 1410 1422 .ne)) (none)))
noncomputable def rw_90lrrlrllr : Nat → Option Op := fun n => cond (Nat.blt n 1400) (rw_90lrrlrllrl n) (rw_90lrrlrllrr n)
noncomputable def rw_90lrrlrll : Nat → Option Op := fun n => cond (Nat.blt n 1394) (rw_90lrrlrlll n) (rw_90lrrlrllr n)
noncomputable def rw_90lrrlrlrll : Nat → Option Op := fun n => cond (Nat.beq n 1422) (some (oGoto 90 3276)) (cond (Nat.beq n 1425) (some (oLoad 90 1426 1 4)) (cond (Nat.beq n 1426) (some (oLoad 90 1427 0 4)) (none)))
noncomputable def rw_90lrrlrlrlr : Nat → Option Op := fun n => cond (Nat.beq n 1427) (some (oLoad 90 1429 5 0)) (cond (Nat.beq n 1429) (some (oPush 90 1430 (.int (Int32.ofInt (1))))) (cond (Nat.beq n 1430) (some (oBin sdv 90 1431 0)) (none)))
noncomputable def rw_90lrrlrlrl : Nat → Option Op := fun n => cond (Nat.blt n 1427) (rw_90lrrlrlrll n) (rw_90lrrlrlrlr n)
noncomputable def rw_90lrrlrlrrl : Nat → Option Op := fun n => cond (Nat.beq n 1431) (some (oIald 90 1432)) (cond (Nat.beq n 1432) (some (oLoad 90 1433 3 4)) (cond (Nat.beq n 1433) (some (oCall (runC 109) 90 1436 1 3 0 4 hdN)) (none)))
noncomputable def rw_90lrrlrlrrr : Nat → Option Op := fun n => cond (Nat.beq n 1436) (some (oStore 90 1438 6 0)) (cond (Nat.beq n 1438) (some (oLoad 90 1439 2 4)) (cond (Nat.beq n 1439) (some (oLoad 90 1440 0 4)) (none)))
noncomputable def rw_90lrrlrlrr : Nat → Option Op := fun n => cond (Nat.blt n 1436) (rw_90lrrlrlrrl n) (rw_90lrrlrlrrr n)
noncomputable def rw_90lrrlrlr : Nat → Option Op := fun n => cond (Nat.blt n 1431) (rw_90lrrlrlrl n) (rw_90lrrlrlrr n)
noncomputable def rw_90lrrlrl : Nat → Option Op := fun n => cond (Nat.blt n 1422) (rw_90lrrlrll n) (rw_90lrrlrlr n)
noncomputable def rw_90lrrlrrlll : Nat → Option Op := fun n => cond (Nat.beq n 1440) (some (oLoad 90 1442 5 0)) (cond (Nat.beq n 1442) (some (oPush 90 1443 (.int (Int32.ofInt (1))))) (cond (Nat.beq n 1443) (some (oBin sdv 90 1444 0)) (none)))
noncomputable def rw_90lrrlrrllr : Nat → Option Op := fun n => cond (Nat.beq n 1444) (some (oIald 90 1445)) (cond (Nat.beq n 1445) (some (oCall (runC 168) 90 1448 2 2 2 4 hdN)) (cond (Nat.beq n 1448) (some (oStore 90 1450 7 0)) (none)))
noncomputable def rw_90lrrlrrll : Nat → Option Op := fun n => cond (Nat.blt n 1444) (rw_90lrrlrrlll n) (rw_90lrrlrrllr n)
noncomputable def rw_90lrrlrrlrl : Nat → Option Op := fun n => cond (Nat.beq n 1450) (some (oLoad 90 1451 2 4)) (cond (Nat.beq n 1451) (some (oCall (runC 170) 90 1454 2 1 2 1 hdN)) (cond (Nat.beq n 1454) (some (oLoad 90 1456 6 0)) (none)))
noncomputable def rw_90lrrlrrlrr : Nat → Option Op := fun n => cond (Nat.beq n 1456) (some (oCmp2 90 1459 1461 .eq)) (cond (Nat.beq n 1461) (some (oLoad 90 1463 6 0)) (cond (Nat.beq n 1463) (some (oCmp1 90 1466 1478 .ne)) (none)))
noncomputable def rw_90lrrlrrlr : Nat → Option Op := fun n => cond (Nat.blt n 1456) (rw_90lrrlrrlrl n) (rw_90lrrlrrlrr n)
noncomputable def rw_90lrrlrrl : Nat → Option Op := fun n => cond (Nat.blt n 1450) (rw_90lrrlrrll n) (rw_90lrrlrrlr n)
noncomputable def rw_90lrrlrrrll : Nat → Option Op := fun n => cond (Nat.beq n 1478) (some (oGoto 90 3276)) (cond (Nat.beq n 1481) (some (oLoad 90 1482 1 4)) (cond (Nat.beq n 1482) (some (oLoad 90 1483 0 4)) (none)))
noncomputable def rw_90lrrlrrrlr : Nat → Option Op := fun n => cond (Nat.beq n 1483) (some (oLoad 90 1485 5 0)) (cond (Nat.beq n 1485) (some (oPush 90 1486 (.int (Int32.ofInt (1))))) (cond (Nat.beq n 1486) (some (oBin sdv 90 1487 0)) (none)))
noncomputable def rw_90lrrlrrrl : Nat → Option Op := fun n => cond (Nat.blt n 1483) (rw_90lrrlrrrll n) (rw_90lrrlrrrlr n)
noncomputable def rw_90lrrlrrrrl : Nat → Option Op := fun n => cond (Nat.beq n 1487) (some (oIald 90 1488)) (cond (Nat.beq n 1488) (some (oLoad 90 1489 3 4)) (cond (Nat.beq n 1489) (some (oCall (runC 93) 90 1492 1 3 0 4 hdN)) (none)))
noncomputable def rw_90lrrlrrrrr : Nat → Option Op := fun n => cond (Nat.beq n 1492) (some (oStore 90 1494 6 0)) (cond (Nat.beq n 1494) (some (oLoad 90 1495 2 4)) (cond (Nat.beq n 1495) (some (oLoad 90 1496 0 4)) (none)))
noncomputable def rw_90lrrlrrrr : Nat → Option Op := fun n => cond (Nat.blt n 1492) (rw_90lrrlrrrrl n) (rw_90lrrlrrrrr n)
noncomputable def rw_90lrrlrrr : Nat → Option Op := fun n => cond (Nat.blt n 1487) (rw_90lrrlrrrl n) (rw_90lrrlrrrr n)
noncomputable def rw_90lrrlrr : Nat → Option Op := fun n => cond (Nat.blt n 1478) (rw_90lrrlrrl n) (rw_90lrrlrrr n)
noncomputable def rw_90lrrlr : Nat → Option Op := fun n => cond (Nat.blt n 1440) (rw_90lrrlrl n) (rw_90lrrlrr n)
noncomputable def rw_90lrrl : Nat → Option Op := fun n => cond (Nat.blt n 1384) (rw_90lrrll n) (rw_90lrrlr n)
noncomputable def rw_90lrrrlllll : Nat → Option Op := fun n => cond (Nat.beq n 1496) (some (oLoad 90 1498 5 0)) (cond (Nat.beq n 1498) (some (oPush 90 1499 (.int (Int32.ofInt (1))))) (none))
noncomputable def rw_90lrrrllllr : Nat → Option Op := fun n => cond (Nat.beq n 1499) (some (oBin sdv 90 1500 0)) (cond (Nat.beq n 1500) (some (oIald 90 1501)) (cond (Nat.beq n 1501) (some (oCall (runC 150) 90 1504 2 2 2 3 hdN)) (none)))
noncomputable def rw_90lrrrllll : Nat → Option Op := fun n => cond (Nat.blt n 1499) (rw_90lrrrlllll n) (rw_90lrrrllllr n)
noncomputable def rw_90lrrrlllrl : Nat → Option Op := fun n => cond (Nat.beq n 1504) (some (oStore 90 1506 7 0)) (cond (Nat.beq n 1506) (some (oLoad 90 1507 2 4)) (cond (Nat.beq n 1507) (some (oCall (runC 170) 90 1510 2 1 2 1 hdN)) (none)))
noncomputable def rw_90lrrrlllrr : Nat → Option Op := fun n => cond (Nat.beq n 1510) (some (oLoad 90 1512 6 0)) (cond (Nat.beq n 1512) (some (oCmp2 90 1515 1517 .eq)) (cond (Nat.beq n 1517) (some (oLoad 90 1519 6 0)) (none)))
noncomputable def rw_90lrrrlllr : Nat → Option Op := fun n => cond (Nat.blt n 1510) (rw_90lrrrlllrl n) (rw_90lrrrlllrr n)
noncomputable def rw_90lrrrlll : Nat → Option Op := fun n => cond (Nat.blt n 1504) (rw_90lrrrllll n) (rw_90lrrrlllr n)
noncomputable def rw_90lrrrllrll : Nat → Option Op := fun n => cond (Nat.beq n 1519) (some (oCmp1 90 1522 1534 .ne)) (cond (Nat.beq n 1534) (some (oGoto 90 3276)) (cond (Nat.beq n 1537) (some (oLoad 90 1538 1 4)) (none)))
noncomputable def rw_90lrrrllrlr : Nat → Option Op := fun n => cond (Nat.beq n 1538) (some (oCall (runC 26) 90 1541 2 1 0 1 hdN)) (cond (Nat.beq n 1541) (some (oLoad 90 1542 2 4)) (cond (Nat.beq n 1542) (some (oCall (runC 149) 90 1545 2 1 2 5 hdN)) (none)))
noncomputable def rw_90lrrrllrl : Nat → Option Op := fun n => cond (Nat.blt n 1538) (rw_90lrrrllrll n) (rw_90lrrrllrlr n)
noncomputable def rw_90lrrrllrrl : Nat → Option Op := fun n => cond (Nat.beq n 1545) (some (oLcmp 90 1546)) (cond (Nat.beq n 1546) (some (oCmp1 90 1549 3276 .eq)) (cond (Nat.beq n 1551) (some (oLoad 90 1552 1 4)) (none)))
noncomputable def rw_90lrrrllrrr : Nat → Option Op := fun n => cond (Nat.beq n 1552) (some (oCall (runC 41) 90 1555 2 1 0 1 hdN)) (cond (Nat.beq n 1555) (some (oLoad 90 1556 2 4)) (cond (Nat.beq n 1556) (some (oCall (runC 158) 90 1559 2 1 2 1 hdN)) (none)))
noncomputable def rw_90lrrrllrr : Nat → Option Op := fun n => cond (Nat.blt n 1552) (rw_90lrrrllrrl n) (rw_90lrrrllrrr n)
noncomputable def rw_90lrrrllr : Nat → Option Op := fun n => cond (Nat.blt n 1545) (rw_90lrrrllrl n) (rw_90lrrrllrr n)
noncomputable def rw_90lrrrll : Nat → Option Op := fun n => cond (Nat.blt n 1519) (rw_90lrrrlll n) (rw_90lrrrllr n)
noncomputable def rw_90lrrrlrlll : Nat → Option Op := fun n => cond (Nat.beq n 1559) (some (oCmp2 90 1562 3276 .eq)) (cond (Nat.beq n 1564) (some (oLoad 90 1565 1 4)) (none))
noncomputable def rw_90lrrrlrllr : Nat → Option Op := fun n => cond (Nat.beq n 1565) (some (oLoad 90 1566 0 4)) (cond (Nat.beq n 1566) (some (oLoad 90 1568 5 0)) (cond (Nat.beq n 1568) (some (oPush 90 1569 (.int (Int32.ofInt (1))))) (none)))
noncomputable def rw_90lrrrlrll : Nat → Option Op := fun n => cond (Nat.blt n 1565) (rw_90lrrrlrlll n) (rw_90lrrrlrllr n)
noncomputable def rw_90lrrrlrlrl : Nat → Option Op := fun n => cond (Nat.beq n 1569) (some (oBin sdv 90 1570 0)) (cond (Nat.beq n 1570) (some (oIald 90 1571)) (cond (Nat.beq n 1571) (some (oLoad 90 1572 0 4)) (none)))
noncomputable def rw_90lrrrlrlrr : Nat → Option Op := fun n => cond (Nat.beq n 1572) (some (oLoad 90 1574 5 0)) (cond (Nat.beq n 1574) (some (oPush 90 1575 (.int (Int32.ofInt (2))))) (cond (Nat.beq n 1575) (some (oBin sdv 90 1576 0)) (none)))
noncomputable def rw_90lrrrlrlr : Nat → Option Op := fun n => cond (Nat.blt n 1572) (rw_90lrrrlrlrl n) (rw_90lrrrlrlrr n)
noncomputable def rw_90lrrrlrl : Nat → Option Op := fun n => cond (Nat.blt n 1569) (rw_90lrrrlrll n) (rw_90lrrrlrlr n)
noncomputable def rw_90lrrrlrrll : Nat → Option Op := fun n => cond (Nat.beq n 1576) (some (oIald 90 1577)) (cond (Nat.beq n 1577) (some (oLoad 90 1578 3 4)) (cond (Nat.beq n 1578) (some (oCall (runC 96) 90 1581 1 4 0 5 hdN)) (none)))
noncomputable def rw_90lrrrlrrlr : Nat → Option Op := fun n => cond (Nat.beq n 1581) (some (oStore 90 1583 6 0)) (cond (Nat.beq n 1583) (some (oLoad 90 1584 2 4)) (cond (Nat.beq n 1584) (some (oLoad 90 1585 0 4)) (none)))
noncomputable def rw_90lrrrlrrl : Nat → Option Op := fun n => cond (Nat.blt n 1581) (rw_90lrrrlrrll n) (rw_90lrrrlrrlr n)
noncomputable def rw_90lrrrlrrrl : Nat → Option Op := fun n => cond (Nat.beq n 1585) (some (oLoad 90 1587 5 0)) (cond (Nat.beq n 1587) (some (oPush 90 1588 (.int (Int32.ofInt (1))))) (cond (Nat.beq n 1588) (some (oBin sdv 90 1589 0)) (none)))
noncomputable def rw_90lrrrlrrrr : Nat → Option Op := fun n => cond (Nat.beq n 1589) (some (oIald 90 1590)) (cond (Nat.beq n 1590) (some (oLoad 90 1591 0 4)) (cond (Nat.beq n 1591) (some (oLoad 90 1593 5 0)) (none)))
noncomputable def rw_90lrrrlrrr : Nat → Option Op := fun n => cond (Nat.blt n 1589) (rw_90lrrrlrrrl n) (rw_90lrrrlrrrr n)
noncomputable def rw_90lrrrlrr : Nat → Option Op := fun n => cond (Nat.blt n 1585) (rw_90lrrrlrrl n) (rw_90lrrrlrrr n)
noncomputable def rw_90lrrrlr : Nat → Option Op := fun n => cond (Nat.blt n 1576) (rw_90lrrrlrl n) (rw_90lrrrlrr n)
noncomputable def rw_90lrrrl : Nat → Option Op := fun n => cond (Nat.blt n 1559) (rw_90lrrrll n) (rw_90lrrrlr n)
noncomputable def rw_90lrrrrllll : Nat → Option Op := fun n => cond (Nat.beq n 1593) (some (oPush 90 1594 (.int (Int32.ofInt (2))))) (cond (Nat.beq n 1594) (some (oBin sdv 90 1595 0)) (none))
noncomputable def rw_90lrrrrlllr : Nat → Option Op := fun n => cond (Nat.beq n 1595) (some (oIald 90 1596)) (cond (Nat.beq n 1596) (some (oCall (runC 154) 90 1599 2 3 2 4 hdN)) (cond (Nat.beq n 1599) (some (oStore 90 1601 7 0)) (none)))
noncomputable def rw_90lrrrrlll : Nat → Option Op := fun n => cond (Nat.blt n 1595) (rw_90lrrrrllll n) (rw_90lrrrrlllr n)
noncomputable def rw_90lrrrrllrl : Nat → Option Op := fun n => cond (Nat.beq n 1601) (some (oLoad 90 1602 2 4)) (cond (Nat.beq n 1602) (some (oCall (runC 170) 90 1605 2 1 2 1 hdN)) (cond (Nat.beq n 1605) (some (oLoad 90 1607 6 0)) (none)))
noncomputable def rw_90lrrrrllrr : Nat → Option Op := fun n => cond (Nat.beq n 1607) (some (oCmp2 90 1610 1612 .eq)) (cond (Nat.beq n 1612) (some (oLoad 90 1614 6 0)) (cond (Nat.beq n 1614) (some (oCmp1 90 1617 1629 .ne)) (none)))
noncomputable def rw_90lrrrrllr : Nat → Option Op := fun n => cond (Nat.blt n 1607) (rw_90lrrrrllrl n) (rw_90lrrrrllrr n)
noncomputable def rw_90lrrrrll : Nat → Option Op := fun n => cond (Nat.blt n 1601) (rw_90lrrrrlll n) (rw_90lrrrrllr n)
noncomputable def rw_90lrrrrlrll : Nat → Option Op := fun n => cond (Nat.beq n 1629) (some (oGoto 90 3276)) (cond (Nat.beq n 1632) (some (oLoad 90 1633 1 4)) (cond (Nat.beq n 1633) (some (oLoad 90 1634 0 4)) (none)))
noncomputable def rw_90lrrrrlrlr : Nat → Option Op := fun n => cond (Nat.beq n 1634) (some (oLoad 90 1636 5 0)) (cond (Nat.beq n 1636) (some (oPush 90 1637 (.int (Int32.ofInt (1))))) (cond (Nat.beq n 1637) (some (oBin sdv 90 1638 0)) (none)))
noncomputable def rw_90lrrrrlrl : Nat → Option Op := fun n => cond (Nat.blt n 1634) (rw_90lrrrrlrll n) (rw_90lrrrrlrlr n)
noncomputable def rw_90lrrrrlrrl : Nat → Option Op := fun n => cond (Nat.beq n 1638) (some (oIald 90 1639)) (cond (Nat.beq n 1639) (some (oLoad 90 1640 3 4)) (cond (Nat.beq n 1640) (some (oCall (runC 101) 90 1643 1 3 0 4 hdN)) (none)))
noncomputable def rw_90lrrrrlrrr : Nat → Option Op := fun n => cond (Nat.beq n 1643) (some (oStore 90 1645 6 0)) (cond (Nat.beq n 1645) (some (oLoad 90 1646 2 4)) (cond (Nat.beq n 1646) (some (oLoad 90 1647 0 4)) (none)))
noncomputable def rw_90lrrrrlrr : Nat → Option Op := fun n => cond (Nat.blt n 1643) (rw_90lrrrrlrrl n) (rw_90lrrrrlrrr n)
noncomputable def rw_90lrrrrlr : Nat → Option Op := fun n => cond (Nat.blt n 1638) (rw_90lrrrrlrl n) (rw_90lrrrrlrr n)
noncomputable def rw_90lrrrrl : Nat → Option Op := fun n => cond (Nat.blt n 1629) (rw_90lrrrrll n) (rw_90lrrrrlr n)
noncomputable def rw_90lrrrrrlll : Nat → Option Op := fun n => cond (Nat.beq n 1647) (some (oLoad 90 1649 5 0)) (cond (Nat.beq n 1649) (some (oPush 90 1650 (.int (Int32.ofInt (1))))) (cond (Nat.beq n 1650) (some (oBin sdv 90 1651 0)) (none)))
noncomputable def rw_90lrrrrrllr : Nat → Option Op := fun n => cond (Nat.beq n 1651) (some (oIald 90 1652)) (cond (Nat.beq n 1652) (some (oCall (runC 160) 90 1655 2 2 2 2 hdN)) (cond (Nat.beq n 1655) (some (oStore 90 1657 7 0)) (none)))
noncomputable def rw_90lrrrrrll : Nat → Option Op := fun n => cond (Nat.blt n 1651) (rw_90lrrrrrlll n) (rw_90lrrrrrllr n)
noncomputable def rw_90lrrrrrlrl : Nat → Option Op := fun n => cond (Nat.beq n 1657) (some (oLoad 90 1658 2 4)) (cond (Nat.beq n 1658) (some (oCall (runC 170) 90 1661 2 1 2 1 hdN)) (cond (Nat.beq n 1661) (some (oLoad 90 1663 6 0)) (none)))
noncomputable def rw_90lrrrrrlrr : Nat → Option Op := fun n => cond (Nat.beq n 1663) (some (oCmp2 90 1666 1668 .eq)) (cond (Nat.beq n 1668) (some (oLoad 90 1670 6 0)) (cond (Nat.beq n 1670) (some (oCmp1 90 1673 1685 .ne)) (none)))
noncomputable def rw_90lrrrrrlr : Nat → Option Op := fun n => cond (Nat.blt n 1663) (rw_90lrrrrrlrl n) (rw_90lrrrrrlrr n)
noncomputable def rw_90lrrrrrl : Nat → Option Op := fun n => cond (Nat.blt n 1657) (rw_90lrrrrrll n) (rw_90lrrrrrlr n)
noncomputable def rw_90lrrrrrrll : Nat → Option Op := fun n => cond (Nat.beq n 1685) (some (oGoto 90 3276)) (cond (Nat.beq n 1688) (some (oLoad 90 1689 1 4)) (cond (Nat.beq n 1689) (some (oLoad 90 1690 0 4)) (none)))
noncomputable def rw_90lrrrrrrlr : Nat → Option Op := fun n => cond (Nat.beq n 1690) (some (oLoad 90 1692 5 0)) (cond (Nat.beq n 1692) (some (oPush 90 1693 (.int (Int32.ofInt (1))))) (cond (Nat.beq n 1693) (some (oBin sdv 90 1694 0)) (none)))
noncomputable def rw_90lrrrrrrl : Nat → Option Op := fun n => cond (Nat.blt n 1690) (rw_90lrrrrrrll n) (rw_90lrrrrrrlr n)
noncomputable def rw_90lrrrrrrrl : Nat → Option Op := fun n => cond (Nat.beq n 1694) (some (oIald 90 1695)) (cond (Nat.beq n 1695) (some (oLoad 90 1696 0 4)) (cond (Nat.beq n 1696) (some (oLoad 90 1698 5 0)) (none)))
noncomputable def rw_90lrrrrrrrr : Nat → Option Op := fun n => cond (Nat.beq n 1698) (some (oPush 90 1699 (.int (Int32.ofInt (2))))) (cond (Nat.beq n 1699) (some (oBin sdv 90 1700 0)) (cond (Nat.beq n 1700) (some (oIald 90 1701)) (none)))
noncomputable def rw_90lrrrrrrr : Nat → Option Op := fun n => cond (Nat.blt n 1698) (rw_90lrrrrrrrl n) (rw_90lrrrrrrrr n)
noncomputable def rw_90lrrrrrr : Nat → Option Op := fun n => cond (Nat.blt n 1694) (rw_90lrrrrrrl n) (rw_90lrrrrrrr n)
noncomputable def rw_90lrrrrr : Nat → Option Op := fun n => cond (Nat.blt n 1685) (rw_90lrrrrrl n) (rw_90lrrrrrr n)
noncomputable def rw_90lrrrr : Nat → Option Op := fun n => cond (Nat.blt n 1647) (rw_90lrrrrl n) (rw_90lrrrrr n)
noncomputable def rw_90lrrr : Nat → Option Op := fun n => cond (Nat.blt n 1593) (rw_90lrrrl n) (rw_90lrrrr n)
noncomputable def rw_90lrr : Nat → Option Op := fun n => cond (Nat.blt n 1496) (rw_90lrrl n) (rw_90lrrr n)
noncomputable def rw_90lr : Nat → Option Op := fun n => cond (Nat.blt n 1299) (rw_90lrl n) (rw_90lrr n)
noncomputable def rw_90l : Nat → Option Op := fun n => cond (Nat.blt n 931) (rw_90ll n) (rw_90lr n)
noncomputable def rw_90rllllllll : Nat → Option Op := fun n => cond (Nat.beq n 1701) (some (oLoad 90 1702 3 4)) (cond (Nat.beq n 1702) (some (oCall (runC 83) 90 1705 1 4 0 5 hdN)) (none))
noncomputable def rw_90rlllllllr : Nat → Option Op := fun n => cond (Nat.beq n 1705) (some (oStore 90 1707 6 0)) (cond (Nat.beq n 1707) (some (oLoad 90 1708 2 4)) (cond (Nat.beq n 1708) (some (oLoad 90 1709 0 4)) (none)))
noncomputable def rw_90rlllllll : Nat → Option Op := fun n => cond (Nat.blt n 1705) (rw_90rllllllll n) (rw_90rlllllllr n)
noncomputable def rw_90rllllllrl : Nat → Option Op := fun n => cond (Nat.beq n 1709) (some (oLoad 90 1711 5 0)) (cond (Nat.beq n 1711) (some (oPush 90 1712 (.int (Int32.ofInt (1))))) (cond (Nat.beq n 1712) (some (oBin sdv 90 1713 0)) (none)))
noncomputable def rw_90rllllllrr : Nat → Option Op := fun n => cond (Nat.beq n 1713) (some (oIald 90 1714)) (cond (Nat.beq n 1714) (some (oLoad 90 1715 0 4)) (cond (Nat.beq n 1715) (some (oLoad 90 1717 5 0)) (none)))
noncomputable def rw_90rllllllr : Nat → Option Op := fun n => cond (Nat.blt n 1713) (rw_90rllllllrl n) (rw_90rllllllrr n)
noncomputable def rw_90rllllll : Nat → Option Op := fun n => cond (Nat.blt n 1709) (rw_90rlllllll n) (rw_90rllllllr n)
noncomputable def rw_90rlllllrll : Nat → Option Op := fun n => cond (Nat.beq n 1717) (some (oPush 90 1718 (.int (Int32.ofInt (2))))) (cond (Nat.beq n 1718) (some (oBin sdv 90 1719 0)) (cond (Nat.beq n 1719) (some (oIald 90 1720)) (none)))
noncomputable def rw_90rlllllrlr : Nat → Option Op := fun n => cond (Nat.beq n 1720) (some (oCall (runC 131) 90 1723 2 3 2 3 hdN)) (cond (Nat.beq n 1723) (some (oStore 90 1725 7 0)) (cond (Nat.beq n 1725) (some (oLoad 90 1726 2 4)) (none)))
noncomputable def rw_90rlllllrl : Nat → Option Op := fun n => cond (Nat.blt n 1720) (rw_90rlllllrll n) (rw_90rlllllrlr n)
noncomputable def rw_90rlllllrrl : Nat → Option Op := fun n => cond (Nat.beq n 1726) (some (oCall (runC 170) 90 1729 2 1 2 1 hdN)) (cond (Nat.beq n 1729) (some (oLoad 90 1731 6 0)) (cond (Nat.beq n 1731) (some (oCmp2 90 1734 1736 .eq)) (none)))
noncomputable def rw_90rlllllrrr : Nat → Option Op := fun n => cond (Nat.beq n 1736) (some (oLoad 90 1738 6 0)) (cond (Nat.beq n 1738) (some (oCmp1 90 1741 1753 .ne)) (cond (Nat.beq n 1753) (some (oGoto 90 3276)) (none)))
noncomputable def rw_90rlllllrr : Nat → Option Op := fun n => cond (Nat.blt n 1736) (rw_90rlllllrrl n) (rw_90rlllllrrr n)
noncomputable def rw_90rlllllr : Nat → Option Op := fun n => cond (Nat.blt n 1726) (rw_90rlllllrl n) (rw_90rlllllrr n)
noncomputable def rw_90rlllll : Nat → Option Op := fun n => cond (Nat.blt n 1717) (rw_90rllllll n) (rw_90rlllllr n)
noncomputable def rw_90rllllrlll : Nat → Option Op := fun n => cond (Nat.beq n 1756) (some (oLoad 90 1757 1 4)) (cond (Nat.beq n 1757) (some (oLoad 90 1758 3 4)) (none))
noncomputable def rw_90rllllrllr : Nat → Option Op := fun n => cond (Nat.beq n 1758) (some (oCall (runC 70) 90 1761 1 2 0 3 hdN)) (cond (Nat.beq n 1761) (some (oStore 90 1763 6 0)) (cond (Nat.beq n 1763) (some (oLoad 90 1764 2 4)) (none)))
noncomputable def rw_90rllllrll : Nat → Option Op := fun n => cond (Nat.blt n 1758) (rw_90rllllrlll n) (rw_90rllllrllr n)
noncomputable def rw_90rllllrlrl : Nat → Option Op := fun n => cond (Nat.beq n 1764) (some (oCall (runC 117) 90 1767 2 1 2 1 hdN)) (cond (Nat.beq n 1767) (some (oStore 90 1769 7 0)) (cond (Nat.beq n 1769) (some (oLoad 90 1770 2 4)) (none)))
noncomputable def rw_90rllllrlrr : Nat → Option Op := fun n => cond (Nat.beq n 1770) (some (oCall (runC 170) 90 1773 2 1 2 1 hdN)) (cond (Nat.beq n 1773) (some (oLoad 90 1775 6 0)) (cond (Nat.beq n 1775) (some (oCmp2 90 1778 1780 .eq)) (none)))
noncomputable def rw_90rllllrlr : Nat → Option Op := fun n => cond (Nat.blt n 1770) (rw_90rllllrlrl n) (rw_90rllllrlrr n)
noncomputable def rw_90rllllrl : Nat → Option Op := fun n => cond (Nat.blt n 1764) (rw_90rllllrll n) (rw_90rllllrlr n)
noncomputable def rw_90rllllrrll : Nat → Option Op := fun n => cond (Nat.beq n 1780) (some (oLoad 90 1782 6 0)) (cond (Nat.beq n 1782) (some (oCmp1 90 1785 1797 .ne)) (cond (Nat.beq n 1797) (some (oGoto 90 3276)) (none)))
noncomputable def rw_90rllllrrlr : Nat → Option Op := fun n => cond (Nat.beq n 1800) (some (oLoad 90 1801 1 4)) (cond (Nat.beq n 1801) (some (oLoad 90 1802 3 4)) (cond (Nat.beq n 1802) (some (oCall (runC 107) 90 1805 1 2 0 3 hdN)) (none)))
noncomputable def rw_90rllllrrl : Nat → Option Op := fun n => cond (Nat.blt n 1800) (rw_90rllllrrll n) (rw_90rllllrrlr n)
noncomputable def rw_90rllllrrrl : Nat → Option Op := fun n => cond (Nat.beq n 1805) (some (oStore 90 1807 6 0)) (cond (Nat.beq n 1807) (some (oLoad 90 1808 2 4)) (cond (Nat.beq n 1808) (some (oCall (runC 166) 90 1811 2 1 2 7 hdN)) (none)))
noncomputable def rw_90rllllrrrr : Nat → Option Op := fun n => cond (Nat.beq n 1811) (some (oStore 90 1813 7 0)) (cond (Nat.beq n 1813) (some (oLoad 90 1814 2 4)) (cond (Nat.beq n 1814) (some (oCall (runC 170) 90 1817 2 1 2 1 hdN)) (none)))
noncomputable def rw_90rllllrrr : Nat → Option Op := fun n => cond (Nat.blt n 1811) (rw_90rllllrrrl n) (rw_90rllllrrrr n)
noncomputable def rw_90rllllrr : Nat → Option Op := fun n => cond (Nat.blt n 1805) (rw_90rllllrrl n) (rw_90rllllrrr n)
noncomputable def rw_90rllllr : Nat → Option Op := fun n => cond (Nat.blt n 1780) (rw_90rllllrl n) (rw_90rllllrr n)
noncomputable def rw_90rllll : Nat → Option Op := fun n => cond (Nat.blt n 1756) (rw_90rlllll n) (rw_90rllllr n)
noncomputable def rw_90rlllrllll : Nat → Option Op := fun n => cond (Nat.beq n 1817) (some (oLoad 90 1819 6 0)) (cond (Nat.beq n 1819) (some (oCmp2 90 1822 1824 .eq)) (none))
noncomputable def rw_90rlllrlllr : Nat → Option Op := fun n => cond (Nat.beq n 1824) (some (oLoad 90 1826 6 0)) (cond (Nat.beq n 1826) (some (oCmp1 90 1829 1841 .ne)) (cond (Nat.beq n 1841) (some (oGoto 90 3276)) (none)))
noncomputable def rw_90rlllrlll : Nat → Option Op := fun n => cond (Nat.blt n 1824) (rw_90rlllrllll n) (rw_90rlllrlllr n)
noncomputable def rw_90rlllrllrl : Nat → Option Op := fun n => cond (Nat.beq n 1844) (some (oLoad 90 1845 1 4)) (cond (Nat.beq n 1845) (some (oLoad 90 1846 0 4)) (cond (Nat.beq n 1846) (some (oLoad 90 1848 5 0)) (none)))
noncomputable def rw_90rlllrllrr : Nat → Option Op := fun n => cond (Nat.beq n 1848) (some (oPush 90 1849 (.int (Int32.ofInt (1))))) (cond (Nat.beq n 1849) (some (oBin sdv 90 1850 0)) (cond (Nat.beq n 1850) (some (oIald 90 1851)) (none)))
noncomputable def rw_90rlllrllr : Nat → Option Op := fun n => cond (Nat.blt n 1848) (rw_90rlllrllrl n) (rw_90rlllrllrr n)
noncomputable def rw_90rlllrll : Nat → Option Op := fun n => cond (Nat.blt n 1844) (rw_90rlllrlll n) (rw_90rlllrllr n)
noncomputable def rw_90rlllrlrll : Nat → Option Op := fun n => cond (Nat.beq n 1851) (some (oLoad 90 1852 0 4)) (cond (Nat.beq n 1852) (some (oLoad 90 1854 5 0)) (cond (Nat.beq n 1854) (some (oPush 90 1855 (.int (Int32.ofInt (2))))) (none)))
noncomputable def rw_90rlllrlrlr : Nat → Option Op := fun n => cond (Nat.beq n 1855) (some (oBin sdv 90 1856 0)) (cond (Nat.beq n 1856) (some (oIald 90 1857)) (cond (Nat.beq n 1857) (some (oLoad 90 1858 3 4)) (none)))
noncomputable def rw_90rlllrlrl : Nat → Option Op := fun n => cond (Nat.blt n 1855) (rw_90rlllrlrll n) (rw_90rlllrlrlr n)
noncomputable def rw_90rlllrlrrl : Nat → Option Op := fun n => cond (Nat.beq n 1858) (some (oCall (runC 81) 90 1861 1 4 0 5 hdN)) (cond (Nat.beq n 1861) (some (oStore 90 1863 6 0)) (cond (Nat.beq n 1863) (some (oLoad 90 1864 2 4)) (none)))
noncomputable def rw_90rlllrlrrr : Nat → Option Op := fun n => cond (Nat.beq n 1864) (some (oLoad 90 1865 0 4)) (cond (Nat.beq n 1865) (some (oLoad 90 1867 5 0)) (cond (Nat.beq n 1867) (some (oPush 90 1868 (.int (Int32.ofInt (1))))) (none)))
noncomputable def rw_90rlllrlrr : Nat → Option Op := fun n => cond (Nat.blt n 1864) (rw_90rlllrlrrl n) (rw_90rlllrlrrr n)
noncomputable def rw_90rlllrlr : Nat → Option Op := fun n => cond (Nat.blt n 1858) (rw_90rlllrlrl n) (rw_90rlllrlrr n)
noncomputable def rw_90rlllrl : Nat → Option Op := fun n => cond (Nat.blt n 1851) (rw_90rlllrll n) (rw_90rlllrlr n)
noncomputable def rw_90rlllrrlll : Nat → Option Op := fun n => cond (Nat.beq n 1868) (some (oBin sdv 90 1869 0)) (cond (Nat.beq n 1869) (some (oIald 90 1870)) (none))
noncomputable def rw_90rlllrrllr : Nat → Option Op := fun n => cond (Nat.beq n 1870) (some (oLoad 90 1871 0 4)) (cond (Nat.beq n 1871) (some (oLoad 90 1873 5 0)) (cond (Nat.beq n 1873) (some (oPush 90 1874 (.int (Int32.ofInt (2))))) (none)))
noncomputable def rw_90rlllrrll : Nat → Option Op := fun n => cond (Nat.blt n 1870) (rw_90rlllrrlll n) (rw_90rlllrrllr n)
noncomputable def rw_90rlllrrlrl : Nat → Option Op := fun n => cond (Nat.beq n 1874) (some (oBin sdv 90 1875 0)) (cond (Nat.beq n 1875) (some (oIald 90 1876)) (cond (Nat.beq n 1876) (some (oCall (runC 129) 90 1879 2 3 2 3 hdN)) (none)))
noncomputable def rw_90rlllrrlrr : Nat → Option Op := fun n => cond (Nat.beq n 1879) (some (oStore 90 1881 7 0)) (cond (Nat.beq n 1881) (some (oLoad 90 1882 2 4)) (cond (Nat.beq n 1882) (some (oCall (runC 170) 90 1885 2 1 2 1 hdN)) (none)))
noncomputable def rw_90rlllrrlr : Nat → Option Op := fun n => cond (Nat.blt n 1879) (rw_90rlllrrlrl n) (rw_90rlllrrlrr n)
noncomputable def rw_90rlllrrl : Nat → Option Op := fun n => cond (Nat.blt n 1874) (rw_90rlllrrll n) (rw_90rlllrrlr n)
noncomputable def rw_90rlllrrrll : Nat → Option Op := fun n => cond (Nat.beq n 1885) (some (oLoad 90 1887 6 0)) (cond (Nat.beq n 1887) (some (oCmp2 90 1890 1892 .eq)) (cond (Nat.beq n 1892) (some (oLoad 90 1894 6 0)) (none)))
noncomputable def rw_90rlllrrrlr : Nat → Option Op := fun n => cond (Nat.beq n 1894) (some (oCmp1 90 1897 1909 .ne)) (cond (Nat.beq n 1909) (some (oGoto 90 3276)) (cond (Nat.beq n 1912) (some (oLoad 90 1913 1 4)) (none)))
noncomputable def rw_90rlllrrrl : Nat → Option Op := fun n => cond (Nat.blt n 1894) (rw_90rlllrrrll n) (rw_90rlllrrrlr n)
noncomputable def rw_90rlllrrrrl : Nat → Option Op := fun n => cond (Nat.beq n 1913) (some (oLoad 90 1914 0 4)) (cond (Nat.beq n 1914) (some (oLoad 90 1916 5 0)) (cond (Nat.beq n 1916) (some (oPush 90 1917 (.int (Int32.ofInt (1))))) (none)))
noncomputable def rw_90rlllrrrrr : Nat → Option Op := fun n => cond (Nat.beq n 1917) (some (oBin sdv 90 1918 0)) (cond (Nat.beq n 1918) (some (oIald 90 1919)) (cond (Nat.beq n 1919) (some (oLoad 90 1920 0 4)) (none)))
noncomputable def rw_90rlllrrrr : Nat → Option Op := fun n => cond (Nat.blt n 1917) (rw_90rlllrrrrl n) (rw_90rlllrrrrr n)
noncomputable def rw_90rlllrrr : Nat → Option Op := fun n => cond (Nat.blt n 1913) (rw_90rlllrrrl n) (rw_90rlllrrrr n)
noncomputable def rw_90rlllrr : Nat → Option Op := fun n => cond (Nat.blt n 1885) (rw_90rlllrrl n) (rw_90rlllrrr n)
noncomputable def rw_90rlllr : Nat → Option Op := fun n => cond (Nat.blt n 1868) (rw_90rlllrl n) (rw_90rlllrr n)
noncomputable def rw_90rlll : Nat → Option Op := fun n => cond (Nat.blt n 1817) (rw_90rllll n) (rw_90rlllr n)
noncomputable def rw_90rllrlllll : Nat → Option Op := fun n => cond (Nat.beq n 1920) (some (oLoad 90 1922 5 0)) (cond (Nat.beq n 1922) (some (oPush 90 1923 (.int (Int32.ofInt (2))))) (none))
noncomputable def rw_90rllrllllr : Nat → Option Op := fun n => cond (Nat.beq n 1923) (some (oBin sdv 90 1924 0)) (cond (Nat.beq n 1924) (some (oIald 90 1925)) (cond (Nat.beq n 1925) (some (oLoad 90 1926 0 4)) (none)))
noncomputable def rw_90rllrllll : Nat → Option Op := fun n => cond (Nat.blt n 1923) (rw_90rllrlllll n) (rw_90rllrllllr n)
noncomputable def rw_90rllrlllrl : Nat → Option Op := fun n => cond (Nat.beq n 1926) (some (oLoad 90 1928 5 0)) (cond (Nat.beq n 1928) (some (oPush 90 1929 (.int (Int32.ofInt (3))))) (cond (Nat.beq n 1929) (some (oBin sdv 90 1930 0)) (none)))
noncomputable def rw_90rllrlllrr : Nat → Option Op := fun n => cond (Nat.beq n 1930) (some (oIald 90 1931)) (cond (Nat.beq n 1931) (some (oLoad 90 1932 0 4)) (cond (Nat.beq n 1932) (some (oLoad 90 1934 5 0)) (none)))
noncomputable def rw_90rllrlllr : Nat → Option Op := fun n => cond (Nat.blt n 1930) (rw_90rllrlllrl n) (rw_90rllrlllrr n)
noncomputable def rw_90rllrlll : Nat → Option Op := fun n => cond (Nat.blt n 1926) (rw_90rllrllll n) (rw_90rllrlllr n)
noncomputable def rw_90rllrllrll : Nat → Option Op := fun n => cond (Nat.beq n 1934) (some (oPush 90 1935 (.int (Int32.ofInt (4))))) (cond (Nat.beq n 1935) (some (oBin sdv 90 1936 0)) (cond (Nat.beq n 1936) (some (oIald 90 1937)) (none)))
noncomputable def rw_90rllrllrlr : Nat → Option Op := fun n => cond (Nat.beq n 1937) (some (oLoad 90 1938 3 4)) (cond (Nat.beq n 1938) (some (oCall (runC 80) 90 1941 1 6 0 7 hdN)) (cond (Nat.beq n 1941) (some (oStore 90 1943 6 0)) (none)))
noncomputable def rw_90rllrllrl : Nat → Option Op := fun n => cond (Nat.blt n 1937) (rw_90rllrllrll n) (rw_90rllrllrlr n)
noncomputable def rw_90rllrllrrl : Nat → Option Op := fun n => cond (Nat.beq n 1943) (some (oLoad 90 1944 2 4)) (cond (Nat.beq n 1944) (some (oLoad 90 1945 0 4)) (cond (Nat.beq n 1945) (some (oLoad 90 1947 5 0)) (none)))
noncomputable def rw_90rllrllrrr : Nat → Option Op := fun n => cond (Nat.beq n 1947) (some (oPush 90 1948 (.int (Int32.ofInt (1))))) (cond (Nat.beq n 1948) (some (oBin sdv 90 1949 0)) (cond (Nat.beq n 1949) (some (oIald 90 1950)) (none)))
noncomputable def rw_90rllrllrr : Nat → Option Op := fun n => cond (Nat.blt n 1947) (rw_90rllrllrrl n) (rw_90rllrllrrr n)
noncomputable def rw_90rllrllr : Nat → Option Op := fun n => cond (Nat.blt n 1943) (rw_90rllrllrl n) (rw_90rllrllrr n)
noncomputable def rw_90rllrll : Nat → Option Op := fun n => cond (Nat.blt n 1934) (rw_90rllrlll n) (rw_90rllrllr n)
noncomputable def rw_90rllrlrlll : Nat → Option Op := fun n => cond (Nat.beq n 1950) (some (oLoad 90 1951 0 4)) (cond (Nat.beq n 1951) (some (oLoad 90 1953 5 0)) (none))
noncomputable def rw_90rllrlrllr : Nat → Option Op := fun n => cond (Nat.beq n 1953) (some (oPush 90 1954 (.int (Int32.ofInt (2))))) (cond (Nat.beq n 1954) (some (oBin sdv 90 1955 0)) (cond (Nat.beq n 1955) (some (oIald 90 1956)) (none)))
noncomputable def rw_90rllrlrll : Nat → Option Op := fun n => cond (Nat.blt n 1953) (rw_90rllrlrlll n) (rw_90rllrlrllr n)
noncomputable def rw_90rllrlrlrl : Nat → Option Op := fun n => cond (Nat.beq n 1956) (some (oLoad 90 1957 0 4)) (cond (Nat.beq n 1957) (some (oLoad 90 1959 5 0)) (cond (Nat.beq n 1959) (some (oPush 90 1960 (.int (Int32.ofInt (3))))) (none)))
noncomputable def rw_90rllrlrlrr : Nat → Option Op := fun n => cond (Nat.beq n 1960) (some (oBin sdv 90 1961 0)) (cond (Nat.beq n 1961) (some (oIald 90 1962)) (cond (Nat.beq n 1962) (some (oLoad 90 1963 0 4)) (none)))
noncomputable def rw_90rllrlrlr : Nat → Option Op := fun n => cond (Nat.blt n 1960) (rw_90rllrlrlrl n) (rw_90rllrlrlrr n)
noncomputable def rw_90rllrlrl : Nat → Option Op := fun n => cond (Nat.blt n 1956) (rw_90rllrlrll n) (rw_90rllrlrlr n)
noncomputable def rw_90rllrlrrll : Nat → Option Op := fun n => cond (Nat.beq n 1963) (some (oLoad 90 1965 5 0)) (cond (Nat.beq n 1965) (some (oPush 90 1966 (.int (Int32.ofInt (4))))) (cond (Nat.beq n 1966) (some (oBin sdv 90 1967 0)) (none)))
noncomputable def rw_90rllrlrrlr : Nat → Option Op := fun n => cond (Nat.beq n 1967) (some (oIald 90 1968)) (cond (Nat.beq n 1968) (some (oCall (runC 128) 90 1971 2 5 2 7 hdN)) (cond (Nat.beq n 1971) (some (oStore 90 1973 7 0)) (none)))
noncomputable def rw_90rllrlrrl : Nat → Option Op := fun n => cond (Nat.blt n 1967) (rw_90rllrlrrll n) (rw_90rllrlrrlr n)
noncomputable def rw_90rllrlrrrl : Nat → Option Op := fun n => cond (Nat.beq n 1973) (some (oLoad 90 1974 2 4)) (cond (Nat.beq n 1974) (some (oCall (runC 170) 90 1977 2 1 2 1 hdN)) (cond (Nat.beq n 1977) (some (oLoad 90 1979 6 0)) (none)))
noncomputable def rw_90rllrlrrrr : Nat → Option Op := fun n => cond (Nat.beq n 1979) (some (oCmp2 90 1982 1984 .eq)) (cond (Nat.beq n 1984) (some (oLoad 90 1986 6 0)) (cond (Nat.beq n 1986) (some (oCmp1 90 1989 2001 .ne)) (none)))
noncomputable def rw_90rllrlrrr : Nat → Option Op := fun n => cond (Nat.blt n 1979) (rw_90rllrlrrrl n) (rw_90rllrlrrrr n)
noncomputable def rw_90rllrlrr : Nat → Option Op := fun n => cond (Nat.blt n 1973) (rw_90rllrlrrl n) (rw_90rllrlrrr n)
noncomputable def rw_90rllrlr : Nat → Option Op := fun n => cond (Nat.blt n 1963) (rw_90rllrlrl n) (rw_90rllrlrr n)
noncomputable def rw_90rllrl : Nat → Option Op := fun n => cond (Nat.blt n 1950) (rw_90rllrll n) (rw_90rllrlr n)
noncomputable def rw_90rllrrllll : Nat → Option Op := fun n => cond (Nat.beq n 2001) (some (oGoto 90 3276)) (cond (Nat.beq n 2004) (some (oLoad 90 2005 1 4)) (none))
noncomputable def rw_90rllrrlllr : Nat → Option Op := fun n => cond (Nat.beq n 2005) (some (oLoad 90 2006 0 4)) (cond (Nat.beq n 2006) (some (oLoad 90 2008 5 0)) (cond (Nat.beq n 2008) (some (oPush 90 2009 (.int (Int32.ofInt (1))))) (none)))
noncomputable def rw_90rllrrlll : Nat → Option Op := fun n => cond (Nat.blt n 2005) (rw_90rllrrllll n) (rw_90rllrrlllr n)
noncomputable def rw_90rllrrllrl : Nat → Option Op := fun n => cond (Nat.beq n 2009) (some (oBin sdv 90 2010 0)) (cond (Nat.beq n 2010) (some (oIald 90 2011)) (cond (Nat.beq n 2011) (some (oLoad 90 2012 0 4)) (none)))
noncomputable def rw_90rllrrllrr : Nat → Option Op := fun n => cond (Nat.beq n 2012) (some (oLoad 90 2014 5 0)) (cond (Nat.beq n 2014) (some (oPush 90 2015 (.int (Int32.ofInt (2))))) (cond (Nat.beq n 2015) (some (oBin sdv 90 2016 0)) (none)))
noncomputable def rw_90rllrrllr : Nat → Option Op := fun n => cond (Nat.blt n 2012) (rw_90rllrrllrl n) (rw_90rllrrllrr n)
noncomputable def rw_90rllrrll : Nat → Option Op := fun n => cond (Nat.blt n 2009) (rw_90rllrrlll n) (rw_90rllrrllr n)
noncomputable def rw_90rllrrlrll : Nat → Option Op := fun n => cond (Nat.beq n 2016) (some (oIald 90 2017)) (cond (Nat.beq n 2017) (some (oLoad 90 2018 0 4)) (cond (Nat.beq n 2018) (some (oLoad 90 2020 5 0)) (none)))
noncomputable def rw_90rllrrlrlr : Nat → Option Op := fun n => cond (Nat.beq n 2020) (some (oPush 90 2021 (.int (Int32.ofInt (3))))) (cond (Nat.beq n 2021) (some (oBin sdv 90 2022 0)) (cond (Nat.beq n 2022) (some (oIald 90 2023)) (none)))
noncomputable def rw_90rllrrlrl : Nat → Option Op := fun n => cond (Nat.blt n 2020) (rw_90rllrrlrll n) (rw_90rllrrlrlr n)
noncomputable def rw_90rllrrlrrl : Nat → Option Op := fun n => cond (Nat.beq n 2023) (some (oLoad 90 2024 3 4)) (cond (Nat.beq n 2024) (some (oCall (runC 110) 90 2027 1 5 0 6 hdN)) (cond (Nat.beq n 2027) (some (oStore 90 2029 6 0)) (none)))
noncomputable def rw_90rllrrlrrr : Nat → Option Op := fun n => cond (Nat.beq n 2029) (some (oLoad 90 2030 2 4)) (cond (Nat.beq n 2030) (some (oLoad 90 2031 0 4)) (cond (Nat.beq n 2031) (some (oLoad 90 2033 5 0)) (none)))
noncomputable def rw_90rllrrlrr : Nat → Option Op := fun n => cond (Nat.blt n 2029) (rw_90rllrrlrrl n) (rw_90rllrrlrrr n)
noncomputable def rw_90rllrrlr : Nat → Option Op := fun n => cond (Nat.blt n 2023) (rw_90rllrrlrl n) (rw_90rllrrlrr n)
noncomputable def rw_90rllrrl : Nat → Option Op := fun n => cond (Nat.blt n 2016) (rw_90rllrrll n) (rw_90rllrrlr n)
noncomputable def rw_90rllrrrlll : Nat → Option Op := fun n => cond (Nat.beq n 2033) (some (oPush 90 2034 (.int (Int32.ofInt (1))))) (cond (Nat.beq n 2034) (some (oBin sdv 90 2035 0)) (cond (Nat.beq n 2035) (some (oIald 90 2036)) (none)))
noncomputable def rw_90rllrrrllr : Nat → Option Op := fun n => cond (Nat.beq n 2036) (some (oLoad 90 2037 0 4)) (cond (Nat.beq n 2037) (some (oLoad 90 2039 5 0)) (cond (Nat.beq n 2039) (some (oPush 90 2040 (.int (Int32.ofInt (2))))) (none)))
noncomputable def rw_90rllrrrll : Nat → Option Op := fun n => cond (Nat.blt n 2036) (rw_90rllrrrlll n) (rw_90rllrrrllr n)
noncomputable def rw_90rllrrrlrl : Nat → Option Op := fun n => cond (Nat.beq n 2040) (some (oBin sdv 90 2041 0)) (cond (Nat.beq n 2041) (some (oIald 90 2042)) (cond (Nat.beq n 2042) (some (oLoad 90 2043 0 4)) (none)))
noncomputable def rw_90rllrrrlrr : Nat → Option Op := fun n => cond (Nat.beq n 2043) (some (oLoad 90 2045 5 0)) (cond (Nat.beq n 2045) (some (oPush 90 2046 (.int (Int32.ofInt (3))))) (cond (Nat.beq n 2046) (some (oBin sdv 90 2047 0)) (none)))
noncomputable def rw_90rllrrrlr : Nat → Option Op := fun n => cond (Nat.blt n 2043) (rw_90rllrrrlrl n) (rw_90rllrrrlrr n)
noncomputable def rw_90rllrrrl : Nat → Option Op := fun n => cond (Nat.blt n 2040) (rw_90rllrrrll n) (rw_90rllrrrlr n)
noncomputable def rw_90rllrrrrll : Nat → Option Op := fun n => cond (Nat.beq n 2047) (some (oIald 90 2048)) (cond (Nat.beq n 2048) (some (oCall (runC 169) 90 2051 2 4 2 7 hdN)) (cond (Nat.beq n 2051) (some (oStore 90 2053 7 0)) (none)))
noncomputable def rw_90rllrrrrlr : Nat → Option Op := fun n => cond (Nat.beq n 2053) (some (oLoad 90 2054 2 4)) (cond (Nat.beq n 2054) (some (oCall (runC 170) 90 2057 2 1 2 1 hdN)) (cond (Nat.beq n 2057) (some (oLoad 90 2059 6 0)) (none)))
noncomputable def rw_90rllrrrrl : Nat → Option Op := fun n => cond (Nat.blt n 2053) (rw_90rllrrrrll n) (rw_90rllrrrrlr n)
noncomputable def rw_90rllrrrrrl : Nat → Option Op := fun n => cond (Nat.beq n 2059) (some (oCmp2 90 2062 2064 .eq)) (cond (Nat.beq n 2064) (some (oLoad 90 2066 6 0)) (cond (Nat.beq n 2066) (some (oCmp1 90 2069 2081 .ne)) (none)))
noncomputable def rw_90rllrrrrrr : Nat → Option Op := fun n => cond (Nat.beq n 2081) (some (oGoto 90 3276)) (cond (Nat.beq n 2084) (some (oLoad 90 2085 1 4)) (cond (Nat.beq n 2085) (some (oLoad 90 2086 0 4)) (none)))
noncomputable def rw_90rllrrrrr : Nat → Option Op := fun n => cond (Nat.blt n 2081) (rw_90rllrrrrrl n) (rw_90rllrrrrrr n)
noncomputable def rw_90rllrrrr : Nat → Option Op := fun n => cond (Nat.blt n 2059) (rw_90rllrrrrl n) (rw_90rllrrrrr n)
noncomputable def rw_90rllrrr : Nat → Option Op := fun n => cond (Nat.blt n 2047) (rw_90rllrrrl n) (rw_90rllrrrr n)
noncomputable def rw_90rllrr : Nat → Option Op := fun n => cond (Nat.blt n 2033) (rw_90rllrrl n) (rw_90rllrrr n)
noncomputable def rw_90rllr : Nat → Option Op := fun n => cond (Nat.blt n 2001) (rw_90rllrl n) (rw_90rllrr n)
noncomputable def rw_90rll : Nat → Option Op := fun n => cond (Nat.blt n 1920) (rw_90rlll n) (rw_90rllr n)
noncomputable def rw_90rlrllllll : Nat → Option Op := fun n => cond (Nat.beq n 2086) (some (oLoad 90 2088 5 0)) (cond (Nat.beq n 2088) (some (oPush 90 2089 (.int (Int32.ofInt (1))))) (none))
noncomputable def rw_90rlrlllllr : Nat → Option Op := fun n => cond (Nat.beq n 2089) (some (oBin sdv 90 2090 0)) (cond (Nat.beq n 2090) (some (oIald 90 2091)) (cond (Nat.beq n 2091) (some (oLoad 90 2092 0 4)) (none)))
noncomputable def rw_90rlrlllll : Nat → Option Op := fun n => cond (Nat.blt n 2089) (rw_90rlrllllll n) (rw_90rlrlllllr n)
noncomputable def rw_90rlrllllrl : Nat → Option Op := fun n => cond (Nat.beq n 2092) (some (oLoad 90 2094 5 0)) (cond (Nat.beq n 2094) (some (oPush 90 2095 (.int (Int32.ofInt (2))))) (cond (Nat.beq n 2095) (some (oBin sdv 90 2096 0)) (none)))
noncomputable def rw_90rlrllllrr : Nat → Option Op := fun n => cond (Nat.beq n 2096) (some (oIald 90 2097)) (cond (Nat.beq n 2097) (some (oLoad 90 2098 3 4)) (cond (Nat.beq n 2098) (some (oCall (runC 95) 90 2101 1 4 0 5 hdN)) (none)))
noncomputable def rw_90rlrllllr : Nat → Option Op := fun n => cond (Nat.blt n 2096) (rw_90rlrllllrl n) (rw_90rlrllllrr n)
noncomputable def rw_90rlrllll : Nat → Option Op := fun n => cond (Nat.blt n 2092) (rw_90rlrlllll n) (rw_90rlrllllr n)
noncomputable def rw_90rlrlllrll : Nat → Option Op := fun n => cond (Nat.beq n 2101) (some (oStore 90 2103 6 0)) (cond (Nat.beq n 2103) (some (oLoad 90 2104 2 4)) (cond (Nat.beq n 2104) (some (oLoad 90 2105 0 4)) (none)))
noncomputable def rw_90rlrlllrlr : Nat → Option Op := fun n => cond (Nat.beq n 2105) (some (oLoad 90 2107 5 0)) (cond (Nat.beq n 2107) (some (oPush 90 2108 (.int (Int32.ofInt (1))))) (cond (Nat.beq n 2108) (some (oBin sdv 90 2109 0)) (none)))
noncomputable def rw_90rlrlllrl : Nat → Option Op := fun n => cond (Nat.blt n 2105) (rw_90rlrlllrll n) (rw_90rlrlllrlr n)
noncomputable def rw_90rlrlllrrl : Nat → Option Op := fun n => cond (Nat.beq n 2109) (some (oIald 90 2110)) (cond (Nat.beq n 2110) (some (oLoad 90 2111 0 4)) (cond (Nat.beq n 2111) (some (oLoad 90 2113 5 0)) (none)))
noncomputable def rw_90rlrlllrrr : Nat → Option Op := fun n => cond (Nat.beq n 2113) (some (oPush 90 2114 (.int (Int32.ofInt (2))))) (cond (Nat.beq n 2114) (some (oBin sdv 90 2115 0)) (cond (Nat.beq n 2115) (some (oIald 90 2116)) (none)))
noncomputable def rw_90rlrlllrr : Nat → Option Op := fun n => cond (Nat.blt n 2113) (rw_90rlrlllrrl n) (rw_90rlrlllrrr n)
noncomputable def rw_90rlrlllr : Nat → Option Op := fun n => cond (Nat.blt n 2109) (rw_90rlrlllrl n) (rw_90rlrlllrr n)
noncomputable def rw_90rlrlll : Nat → Option Op := fun n => cond (Nat.blt n 2101) (rw_90rlrllll n) (rw_90rlrlllr n)
noncomputable def rw_90rlrllrlll : Nat → Option Op := fun n => cond (Nat.beq n 2116) (some (oCall (runC 153) 90 2119 2 3 2 4 hdN)) (cond (Nat.beq n 2119) (some (oStore 90 2121 7 0)) (none))
noncomputable def rw_90rlrllrllr : Nat → Option Op := fun n => cond (Nat.beq n 2121) (some (oLoad 90 2122 2 4)) (cond (Nat.beq n 2122) (some (oCall (runC 170) 90 2125 2 1 2 1 hdN)) (cond (Nat.beq n 2125) (some (oLoad 90 2127 6 0)) (none)))
noncomputable def rw_90rlrllrll : Nat → Option Op := fun n => cond (Nat.blt n 2121) (rw_90rlrllrlll n) (rw_90rlrllrllr n)
noncomputable def rw_90rlrllrlrl : Nat → Option Op := fun n => cond (Nat.beq n 2127) (some (oCmp2 90 2130 2132 .eq)) (cond (Nat.beq n 2132) (some (oLoad 90 2134 6 0)) (cond (Nat.beq n 2134) (some (oCmp1 90 2137 2149 .ne)) (none)))
noncomputable def rw_90rlrllrlrr : Nat → Option Op := fun n => cond (Nat.beq n 2137) (some (oLoad 90 2138 3 4)) (cond (Nat.beq n 2138) (some (oPush 90 2139 (.int (Int32.ofInt (0))))) (cond (Nat.beq n 2139) (some (oLald 90 2140)) (none)))
noncomputable def rw_90rlrllrlr : Nat → Option Op := fun n => cond (Nat.blt n 2137) (rw_90rlrllrlrl n) (rw_90rlrllrlrr n)
noncomputable def rw_90rlrllrl : Nat → Option Op := fun n => cond (Nat.blt n 2127) (rw_90rlrllrll n) (rw_90rlrllrlr n)
noncomputable def rw_90rlrllrrll : Nat → Option Op := fun n => cond (Nat.beq n 2140) (some (oLoad 90 2142 7 0)) (cond (Nat.beq n 2142) (some (oI2l 90 2143)) (cond (Nat.beq n 2143) (some (oLcmp 90 2144)) (none)))
noncomputable def rw_90rlrllrrlr : Nat → Option Op := fun n => cond (Nat.beq n 2144) (some (oCmp1 90 2147 2149 .eq)) (cond (Nat.beq n 2149) (some (oGoto 90 3276)) (cond (Nat.beq n 2152) (some (oLoad 90 2153 1 4)) (none)))
noncomputable def rw_90rlrllrrl : Nat → Option Op := fun n => cond (Nat.blt n 2144) (rw_90rlrllrrll n) (rw_90rlrllrrlr n)
noncomputable def rw_90rlrllrrrl : Nat → Option Op := fun n => cond (Nat.beq n 2153) (some (oLoad 90 2154 0 4)) (cond (Nat.beq n 2154) (some (oLoad 90 2156 5 0)) (cond (Nat.beq n 2156) (some (oPush 90 2157 (.int (Int32.ofInt (1))))) (none)))
noncomputable def rw_90rlrllrrrr : Nat → Option Op := fun n => cond (Nat.beq n 2157) (some (oBin sdv 90 2158 0)) (cond (Nat.beq n 2158) (some (oIald 90 2159)) (cond (Nat.beq n 2159) (some (oLoad 90 2160 0 4)) (none)))
noncomputable def rw_90rlrllrrr : Nat → Option Op := fun n => cond (Nat.blt n 2157) (rw_90rlrllrrrl n) (rw_90rlrllrrrr n)
noncomputable def rw_90rlrllrr : Nat → Option Op := fun n => cond (Nat.blt n 2153) (rw_90rlrllrrl n) (rw_90rlrllrrr n)
noncomputable def rw_90rlrllr : Nat → Option Op := fun n => cond (Nat.blt n 2140) (rw_90rlrllrl n) (rw_90rlrllrr n)
noncomputable def rw_90rlrll : Nat → Option Op := fun n => cond (Nat.blt n 2116) (rw_90rlrlll n) (rw_90rlrllr n)
noncomputable def rw_90rlrlrllll : Nat → Option Op := fun n => cond (Nat.beq n 2160) (some (oLoad 90 2162 5 0)) (cond (Nat.beq n 2162) (some (oPush 90 2163 (.int (Int32.ofInt (2))))) (none))
noncomputable def rw_90rlrlrlllr : Nat → Option Op := fun n => cond (Nat.beq n 2163) (some (oBin sdv 90 2164 0)) (cond (Nat.beq n 2164) (some (oIald 90 2165)) (cond (Nat.beq n 2165) (some (oLoad 90 2166 0 4)) (none)))
noncomputable def rw_90rlrlrlll : Nat → Option Op := fun n => cond (Nat.blt n 2163) (rw_90rlrlrllll n) (rw_90rlrlrlllr n)
noncomputable def rw_90rlrlrllrl : Nat → Option Op := fun n => cond (Nat.beq n 2166) (some (oLoad 90 2168 5 0)) (cond (Nat.beq n 2168) (some (oPush 90 2169 (.int (Int32.ofInt (3))))) (cond (Nat.beq n 2169) (some (oBin sdv 90 2170 0)) (none)))
noncomputable def rw_90rlrlrllrr : Nat → Option Op := fun n => cond (Nat.beq n 2170) (some (oIald 90 2171)) (cond (Nat.beq n 2171) (some (oLoad 90 2172 0 4)) (cond (Nat.beq n 2172) (some (oLoad 90 2174 5 0)) (none)))
noncomputable def rw_90rlrlrllr : Nat → Option Op := fun n => cond (Nat.blt n 2170) (rw_90rlrlrllrl n) (rw_90rlrlrllrr n)
noncomputable def rw_90rlrlrll : Nat → Option Op := fun n => cond (Nat.blt n 2166) (rw_90rlrlrlll n) (rw_90rlrlrllr n)
noncomputable def rw_90rlrlrlrll : Nat → Option Op := fun n => cond (Nat.beq n 2174) (some (oPush 90 2175 (.int (Int32.ofInt (4))))) (cond (Nat.beq n 2175) (some (oBin sdv 90 2176 0)) (cond (Nat.beq n 2176) (some (oIald 90 2177)) (none)))
noncomputable def rw_90rlrlrlrlr : Nat → Option Op := fun n => cond (Nat.beq n 2177) (some (oLoad 90 2178 3 4)) (cond (Nat.beq n 2178) (some (oCall (runC 77) 90 2181 1 6 0 7 hdN)) (cond (Nat.beq n 2181) (some (oStore 90 2183 6 0)) (none)))
noncomputable def rw_90rlrlrlrl : Nat → Option Op := fun n => cond (Nat.blt n 2177) (rw_90rlrlrlrll n) (rw_90rlrlrlrlr n)
noncomputable def rw_90rlrlrlrrl : Nat → Option Op := fun n => cond (Nat.beq n 2183) (some (oLoad 90 2184 2 4)) (cond (Nat.beq n 2184) (some (oLoad 90 2185 0 4)) (cond (Nat.beq n 2185) (some (oLoad 90 2187 5 0)) (none)))
noncomputable def rw_90rlrlrlrrr : Nat → Option Op := fun n => cond (Nat.beq n 2187) (some (oPush 90 2188 (.int (Int32.ofInt (1))))) (cond (Nat.beq n 2188) (some (oBin sdv 90 2189 0)) (cond (Nat.beq n 2189) (some (oIald 90 2190)) (none)))
noncomputable def rw_90rlrlrlrr : Nat → Option Op := fun n => cond (Nat.blt n 2187) (rw_90rlrlrlrrl n) (rw_90rlrlrlrrr n)
noncomputable def rw_90rlrlrlr : Nat → Option Op := fun n => cond (Nat.blt n 2183) (rw_90rlrlrlrl n) (rw_90rlrlrlrr n)
noncomputable def rw_90rlrlrl : Nat → Option Op := fun n => cond (Nat.blt n 2174) (rw_90rlrlrll n) (rw_90rlrlrlr n)
noncomputable def rw_90rlrlrrlll : Nat → Option Op := fun n => cond (Nat.beq n 2190) (some (oLoad 90 2191 0 4)) (cond (Nat.beq n 2191) (some (oLoad 90 2193 5 0)) (cond (Nat.beq n 2193) (some (oPush 90 2194 (.int (Int32.ofInt (2))))) (none)))
noncomputable def rw_90rlrlrrllr : Nat → Option Op := fun n => cond (Nat.beq n 2194) (some (oBin sdv 90 2195 0)) (cond (Nat.beq n 2195) (some (oIald 90 2196)) (cond (Nat.beq n 2196) (some (oLoad 90 2197 0 4)) (none)))
noncomputable def rw_90rlrlrrll : Nat → Option Op := fun n => cond (Nat.blt n 2194) (rw_90rlrlrrlll n) (rw_90rlrlrrllr n)
noncomputable def rw_90rlrlrrlrl : Nat → Option Op := fun n => cond (Nat.beq n 2197) (some (oLoad 90 2199 5 0)) (cond (Nat.beq n 2199) (some (oPush 90 2200 (.int (Int32.ofInt (3))))) (cond (Nat.beq n 2200) (some (oBin sdv 90 2201 0)) (none)))
noncomputable def rw_90rlrlrrlrr : Nat → Option Op := fun n => cond (Nat.beq n 2201) (some (oIald 90 2202)) (cond (Nat.beq n 2202) (some (oLoad 90 2203 0 4)) (cond (Nat.beq n 2203) (some (oLoad 90 2205 5 0)) (none)))
noncomputable def rw_90rlrlrrlr : Nat → Option Op := fun n => cond (Nat.blt n 2201) (rw_90rlrlrrlrl n) (rw_90rlrlrrlrr n)
noncomputable def rw_90rlrlrrl : Nat → Option Op := fun n => cond (Nat.blt n 2197) (rw_90rlrlrrll n) (rw_90rlrlrrlr n)
noncomputable def rw_90rlrlrrrll : Nat → Option Op := fun n => cond (Nat.beq n 2205) (some (oPush 90 2206 (.int (Int32.ofInt (4))))) (cond (Nat.beq n 2206) (some (oBin sdv 90 2207 0)) (cond (Nat.beq n 2207) (some (oIald 90 2208)) (none)))
noncomputable def rw_90rlrlrrrlr : Nat → Option Op := fun n => cond (Nat.beq n 2208) (some (oCall (runC 125) 90 2211 2 5 2 6 hdN)) (cond (Nat.beq n 2211) (some (oStore 90 2213 7 0)) (cond (Nat.beq n 2213) (some (oLoad 90 2214 2 4)) (none)))
noncomputable def rw_90rlrlrrrl : Nat → Option Op := fun n => cond (Nat.blt n 2208) (rw_90rlrlrrrll n) (rw_90rlrlrrrlr n)
noncomputable def rw_90rlrlrrrrl : Nat → Option Op := fun n => cond (Nat.beq n 2214) (some (oCall (runC 170) 90 2217 2 1 2 1 hdN)) (cond (Nat.beq n 2217) (some (oLoad 90 2219 6 0)) (cond (Nat.beq n 2219) (some (oCmp2 90 2222 2224 .eq)) (none)))
noncomputable def rw_90rlrlrrrrr : Nat → Option Op := fun n => cond (Nat.beq n 2224) (some (oLoad 90 2226 6 0)) (cond (Nat.beq n 2226) (some (oCmp1 90 2229 2241 .ne)) (cond (Nat.beq n 2229) (some (oLoad 90 2230 3 4)) (none)))
noncomputable def rw_90rlrlrrrr : Nat → Option Op := fun n => cond (Nat.blt n 2224) (rw_90rlrlrrrrl n) (rw_90rlrlrrrrr n)
noncomputable def rw_90rlrlrrr : Nat → Option Op := fun n => cond (Nat.blt n 2214) (rw_90rlrlrrrl n) (rw_90rlrlrrrr n)
noncomputable def rw_90rlrlrr : Nat → Option Op := fun n => cond (Nat.blt n 2205) (rw_90rlrlrrl n) (rw_90rlrlrrr n)
noncomputable def rw_90rlrlr : Nat → Option Op := fun n => cond (Nat.blt n 2190) (rw_90rlrlrl n) (rw_90rlrlrr n)
noncomputable def rw_90rlrl : Nat → Option Op := fun n => cond (Nat.blt n 2160) (rw_90rlrll n) (rw_90rlrlr n)
noncomputable def rw_90rlrrlllll : Nat → Option Op := fun n => cond (Nat.beq n 2230) (some (oPush 90 2231 (.int (Int32.ofInt (0))))) (cond (Nat.beq n 2231) (some (oLald 90 2232)) (none))
noncomputable def rw_90rlrrllllr : Nat → Option Op := fun n => cond (Nat.beq n 2232) (some (oLoad 90 2234 7 0)) (cond (Nat.beq n 2234) (some (oI2l 90 2235)) (cond (Nat.beq n 2235) (some (oLcmp 90 2236)) (none)))
noncomputable def rw_90rlrrllll : Nat → Option Op := fun n => cond (Nat.blt n 2232) (rw_90rlrrlllll n) (rw_90rlrrllllr n)
noncomputable def rw_90rlrrlllrl : Nat → Option Op := fun n => cond (Nat.beq n 2236) (some (oCmp1 90 2239 2241 .eq)) (cond (Nat.beq n 2241) (some (oGoto 90 3276)) (cond (Nat.beq n 2244) (some (oLoad 90 2245 1 4)) (none)))
noncomputable def rw_90rlrrlllrr : Nat → Option Op := fun n => cond (Nat.beq n 2245) (some (oLoad 90 2246 0 4)) (cond (Nat.beq n 2246) (some (oLoad 90 2248 5 0)) (cond (Nat.beq n 2248) (some (oPush 90 2249 (.int (Int32.ofInt (1))))) (none)))
noncomputable def rw_90rlrrlllr : Nat → Option Op := fun n => cond (Nat.blt n 2245) (rw_90rlrrlllrl n) (rw_90rlrrlllrr n)
noncomputable def rw_90rlrrlll : Nat → Option Op := fun n => cond (Nat.blt n 2236) (rw_90rlrrllll n) (rw_90rlrrlllr n)
noncomputable def rw_90rlrrllrll : Nat → Option Op := fun n => cond (Nat.beq n 2249) (some (oBin sdv 90 2250 0)) (cond (Nat.beq n 2250) (some (oIald 90 2251)) (cond (Nat.beq n 2251) (some (oLoad 90 2252 3 4)) (none)))
noncomputable def rw_90rlrrllrlr : Nat → Option Op := fun n => cond (Nat.beq n 2252) (some (oCall (runC 72) 90 2255 1 3 0 4 hdN)) (cond (Nat.beq n 2255) (some (oStore 90 2257 6 0)) (cond (Nat.beq n 2257) (some (oLoad 90 2258 2 4)) (none)))
noncomputable def rw_90rlrrllrl : Nat → Option Op := fun n => cond (Nat.blt n 2252) (rw_90rlrrllrll n) (rw_90rlrrllrlr n)
noncomputable def rw_90rlrrllrrl : Nat → Option Op := fun n => cond (Nat.beq n 2258) (some (oLoad 90 2259 0 4)) (cond (Nat.beq n 2259) (some (oLoad 90 2261 5 0)) (cond (Nat.beq n 2261) (some (oPush 90 2262 (.int (Int32.ofInt (1))))) (none)))
noncomputable def rw_90rlrrllrrr : Nat → Option Op := fun n => cond (Nat.beq n 2262) (some (oBin sdv 90 2263 0)) (cond (Nat.beq n 2263) (some (oIald 90 2264)) (cond (Nat.beq n 2264) (some (oCall hk_194 90 2267 2 2 2 5 hdN)) (none)))
noncomputable def rw_90rlrrllrr : Nat → Option Op := fun n => cond (Nat.blt n 2262) (rw_90rlrrllrrl n) (rw_90rlrrllrrr n)
noncomputable def rw_90rlrrllr : Nat → Option Op := fun n => cond (Nat.blt n 2258) (rw_90rlrrllrl n) (rw_90rlrrllrr n)
noncomputable def rw_90rlrrll : Nat → Option Op := fun n => cond (Nat.blt n 2249) (rw_90rlrrlll n) (rw_90rlrrllr n)
noncomputable def rw_90rlrrlrlll : Nat → Option Op := fun n => cond (Nat.beq n 2267) (some (oStore 90 2269 7 0)) (cond (Nat.beq n 2269) (some (oLoad 90 2270 2 4)) (none))
noncomputable def rw_90rlrrlrllr : Nat → Option Op := fun n => cond (Nat.beq n 2270) (some (oCall (runC 170) 90 2273 2 1 2 1 hdN)) (cond (Nat.beq n 2273) (some (oLoad 90 2275 6 0)) (cond (Nat.beq n 2275) (some (oCmp2 90 2278 2280 .eq)) (none)))
noncomputable def rw_90rlrrlrll : Nat → Option Op := fun n => cond (Nat.blt n 2270) (rw_90rlrrlrlll n) (rw_90rlrrlrllr n)
noncomputable def rw_90rlrrlrlrl : Nat → Option Op := fun n => cond (Nat.beq n 2280) (some (oLoad 90 2282 6 0)) (cond (Nat.beq n 2282) (some (oCmp1 90 2285 2304 .ne)) (cond (Nat.beq n 2285) (some (oLoad 90 2286 3 4)) (none)))
noncomputable def rw_90rlrrlrlrr : Nat → Option Op := fun n => cond (Nat.beq n 2286) (some (oPush 90 2287 (.int (Int32.ofInt (0))))) (cond (Nat.beq n 2287) (some (oLald 90 2288)) (cond (Nat.beq n 2288) (some (oLoad 90 2290 7 0)) (none)))
noncomputable def rw_90rlrrlrlr : Nat → Option Op := fun n => cond (Nat.blt n 2286) (rw_90rlrrlrlrl n) (rw_90rlrrlrlrr n)
noncomputable def rw_90rlrrlrl : Nat → Option Op := fun n => cond (Nat.blt n 2280) (rw_90rlrrlrll n) (rw_90rlrrlrlr n)
noncomputable def rw_90rlrrlrrll : Nat → Option Op := fun n => cond (Nat.beq n 2290) (some (oCmp1 90 2293 2297 .eq)) (cond (Nat.beq n 2293) (some (oPush 90 2294 (.long (Int64.ofNat 1)))) (cond (Nat.beq n 2294) (some (oGoto 90 2298)) (none)))
noncomputable def rw_90rlrrlrrlr : Nat → Option Op := fun n => cond (Nat.beq n 2298) (some (oLcmp 90 2299)) (cond (Nat.beq n 2299) (some (oCmp1 90 2302 2304 .eq)) (cond (Nat.beq n 2304) (some (oGoto 90 3276)) (none)))
noncomputable def rw_90rlrrlrrl : Nat → Option Op := fun n => cond (Nat.blt n 2298) (rw_90rlrrlrrll n) (rw_90rlrrlrrlr n)
noncomputable def rw_90rlrrlrrrl : Nat → Option Op := fun n => cond (Nat.beq n 2307) (some (oLoad 90 2308 1 4)) (cond (Nat.beq n 2308) (some (oLoad 90 2309 0 4)) (cond (Nat.beq n 2309) (some (oLoad 90 2311 5 0)) (none)))
noncomputable def rw_90rlrrlrrrr : Nat → Option Op := fun n => cond (Nat.beq n 2311) (some (oPush 90 2312 (.int (Int32.ofInt (1))))) (cond (Nat.beq n 2312) (some (oBin sdv 90 2313 0)) (cond (Nat.beq n 2313) (some (oIald 90 2314)) (none)))
noncomputable def rw_90rlrrlrrr : Nat → Option Op := fun n => cond (Nat.blt n 2311) (rw_90rlrrlrrrl n) (rw_90rlrrlrrrr n)
noncomputable def rw_90rlrrlrr : Nat → Option Op := fun n => cond (Nat.blt n 2307) (rw_90rlrrlrrl n) (rw_90rlrrlrrr n)
noncomputable def rw_90rlrrlr : Nat → Option Op := fun n => cond (Nat.blt n 2290) (rw_90rlrrlrl n) (rw_90rlrrlrr n)
noncomputable def rw_90rlrrl : Nat → Option Op := fun n => cond (Nat.blt n 2267) (rw_90rlrrll n) (rw_90rlrrlr n)
noncomputable def rw_90rlrrrllll : Nat → Option Op := fun n => cond (Nat.beq n 2314) (some (oLoad 90 2315 0 4)) (cond (Nat.beq n 2315) (some (oLoad 90 2317 5 0)) (none))
noncomputable def rw_90rlrrrlllr : Nat → Option Op := fun n => cond (Nat.beq n 2317) (some (oPush 90 2318 (.int (Int32.ofInt (2))))) (cond (Nat.beq n 2318) (some (oBin sdv 90 2319 0)) (cond (Nat.beq n 2319) (some (oIald 90 2320)) (none)))
noncomputable def rw_90rlrrrlll : Nat → Option Op := fun n => cond (Nat.blt n 2317) (rw_90rlrrrllll n) (rw_90rlrrrlllr n)
noncomputable def rw_90rlrrrllrl : Nat → Option Op := fun n => cond (Nat.beq n 2320) (some (oLoad 90 2321 0 4)) (cond (Nat.beq n 2321) (some (oLoad 90 2323 5 0)) (cond (Nat.beq n 2323) (some (oPush 90 2324 (.int (Int32.ofInt (3))))) (none)))
noncomputable def rw_90rlrrrllrr : Nat → Option Op := fun n => cond (Nat.beq n 2324) (some (oBin sdv 90 2325 0)) (cond (Nat.beq n 2325) (some (oIald 90 2326)) (cond (Nat.beq n 2326) (some (oLoad 90 2327 0 4)) (none)))
noncomputable def rw_90rlrrrllr : Nat → Option Op := fun n => cond (Nat.blt n 2324) (rw_90rlrrrllrl n) (rw_90rlrrrllrr n)
noncomputable def rw_90rlrrrll : Nat → Option Op := fun n => cond (Nat.blt n 2320) (rw_90rlrrrlll n) (rw_90rlrrrllr n)
noncomputable def rw_90rlrrrlrll : Nat → Option Op := fun n => cond (Nat.beq n 2327) (some (oLoad 90 2329 5 0)) (cond (Nat.beq n 2329) (some (oPush 90 2330 (.int (Int32.ofInt (4))))) (cond (Nat.beq n 2330) (some (oBin sdv 90 2331 0)) (none)))
noncomputable def rw_90rlrrrlrlr : Nat → Option Op := fun n => cond (Nat.beq n 2331) (some (oIald 90 2332)) (cond (Nat.beq n 2332) (some (oLoad 90 2333 3 4)) (cond (Nat.beq n 2333) (some (oCall (runC 114) 90 2336 1 6 0 7 hdN)) (none)))
noncomputable def rw_90rlrrrlrl : Nat → Option Op := fun n => cond (Nat.blt n 2331) (rw_90rlrrrlrll n) (rw_90rlrrrlrlr n)
noncomputable def rw_90rlrrrlrrl : Nat → Option Op := fun n => cond (Nat.beq n 2336) (some (oStore 90 2338 6 0)) (cond (Nat.beq n 2338) (some (oLoad 90 2339 2 4)) (cond (Nat.beq n 2339) (some (oLoad 90 2340 0 4)) (none)))
noncomputable def rw_90rlrrrlrrr : Nat → Option Op := fun n => cond (Nat.beq n 2340) (some (oLoad 90 2342 5 0)) (cond (Nat.beq n 2342) (some (oPush 90 2343 (.int (Int32.ofInt (1))))) (cond (Nat.beq n 2343) (some (oBin sdv 90 2344 0)) (none)))
noncomputable def rw_90rlrrrlrr : Nat → Option Op := fun n => cond (Nat.blt n 2340) (rw_90rlrrrlrrl n) (rw_90rlrrrlrrr n)
noncomputable def rw_90rlrrrlr : Nat → Option Op := fun n => cond (Nat.blt n 2336) (rw_90rlrrrlrl n) (rw_90rlrrrlrr n)
noncomputable def rw_90rlrrrl : Nat → Option Op := fun n => cond (Nat.blt n 2327) (rw_90rlrrrll n) (rw_90rlrrrlr n)
noncomputable def rw_90rlrrrrlll : Nat → Option Op := fun n => cond (Nat.beq n 2344) (some (oIald 90 2345)) (cond (Nat.beq n 2345) (some (oLoad 90 2346 0 4)) (cond (Nat.beq n 2346) (some (oLoad 90 2348 5 0)) (none)))
noncomputable def rw_90rlrrrrllr : Nat → Option Op := fun n => cond (Nat.beq n 2348) (some (oPush 90 2349 (.int (Int32.ofInt (2))))) (cond (Nat.beq n 2349) (some (oBin sdv 90 2350 0)) (cond (Nat.beq n 2350) (some (oIald 90 2351)) (none)))
noncomputable def rw_90rlrrrrll : Nat → Option Op := fun n => cond (Nat.blt n 2348) (rw_90rlrrrrlll n) (rw_90rlrrrrllr n)
noncomputable def rw_90rlrrrrlrl : Nat → Option Op := fun n => cond (Nat.beq n 2351) (some (oLoad 90 2352 0 4)) (cond (Nat.beq n 2352) (some (oLoad 90 2354 5 0)) (cond (Nat.beq n 2354) (some (oPush 90 2355 (.int (Int32.ofInt (3))))) (none)))
noncomputable def rw_90rlrrrrlrr : Nat → Option Op := fun n => cond (Nat.beq n 2355) (some (oBin sdv 90 2356 0)) (cond (Nat.beq n 2356) (some (oIald 90 2357)) (cond (Nat.beq n 2357) (some (oLoad 90 2358 0 4)) (none)))
noncomputable def rw_90rlrrrrlr : Nat → Option Op := fun n => cond (Nat.blt n 2355) (rw_90rlrrrrlrl n) (rw_90rlrrrrlrr n)
noncomputable def rw_90rlrrrrl : Nat → Option Op := fun n => cond (Nat.blt n 2351) (rw_90rlrrrrll n) (rw_90rlrrrrlr n)
noncomputable def rw_90rlrrrrrll : Nat → Option Op := fun n => cond (Nat.beq n 2358) (some (oLoad 90 2360 5 0)) (cond (Nat.beq n 2360) (some (oPush 90 2361 (.int (Int32.ofInt (4))))) (cond (Nat.beq n 2361) (some (oBin sdv 90 2362 0)) (none)))
noncomputable def rw_90rlrrrrrlr : Nat → Option Op := fun n => cond (Nat.beq n 2362) (some (oIald 90 2363)) (cond (Nat.beq n 2363) (some (oCall (runC 174) 90 2366 2 5 2 5 hdN)) (cond (Nat.beq n 2366) (some (oStore 90 2368 7 0)) (none)))
noncomputable def rw_90rlrrrrrl : Nat → Option Op := fun n => cond (Nat.blt n 2362) (rw_90rlrrrrrll n) (rw_90rlrrrrrlr n)
noncomputable def rw_90rlrrrrrrl : Nat → Option Op := fun n => cond (Nat.beq n 2368) (some (oLoad 90 2369 2 4)) (cond (Nat.beq n 2369) (some (oCall (runC 170) 90 2372 2 1 2 1 hdN)) (cond (Nat.beq n 2372) (some (oLoad 90 2374 6 0)) (none)))
noncomputable def rw_90rlrrrrrrr : Nat → Option Op := fun n => cond (Nat.beq n 2374) (some (oCmp2 90 2377 2379 .eq)) (cond (Nat.beq n 2379) (some (oLoad 90 2381 6 0)) (cond (Nat.beq n 2381) (some (oCmp1 90 2384 2396 .ne)) (none)))
noncomputable def rw_90rlrrrrrr : Nat → Option Op := fun n => cond (Nat.blt n 2374) (rw_90rlrrrrrrl n) (rw_90rlrrrrrrr n)
noncomputable def rw_90rlrrrrr : Nat → Option Op := fun n => cond (Nat.blt n 2368) (rw_90rlrrrrrl n) (rw_90rlrrrrrr n)
noncomputable def rw_90rlrrrr : Nat → Option Op := fun n => cond (Nat.blt n 2358) (rw_90rlrrrrl n) (rw_90rlrrrrr n)
noncomputable def rw_90rlrrr : Nat → Option Op := fun n => cond (Nat.blt n 2344) (rw_90rlrrrl n) (rw_90rlrrrr n)
noncomputable def rw_90rlrr : Nat → Option Op := fun n => cond (Nat.blt n 2314) (rw_90rlrrl n) (rw_90rlrrr n)
noncomputable def rw_90rlr : Nat → Option Op := fun n => cond (Nat.blt n 2230) (rw_90rlrl n) (rw_90rlrr n)
noncomputable def rw_90rl : Nat → Option Op := fun n => cond (Nat.blt n 2086) (rw_90rll n) (rw_90rlr n)
noncomputable def rw_90rrlllllll : Nat → Option Op := fun n => cond (Nat.beq n 2384) (some (oLoad 90 2385 3 4)) (cond (Nat.beq n 2385) (some (oPush 90 2386 (.int (Int32.ofInt (0))))) (none))
noncomputable def rw_90rrllllllr : Nat → Option Op := fun n => cond (Nat.beq n 2386) (some (oLald 90 2387)) (cond (Nat.beq n 2387) (some (oLoad 90 2389 7 0)) (cond (Nat.beq n 2389) (some (oI2l 90 2390)) (none)))
noncomputable def rw_90rrllllll : Nat → Option Op := fun n => cond (Nat.blt n 2386) (rw_90rrlllllll n) (rw_90rrllllllr n)
noncomputable def rw_90rrlllllrl : Nat → Option Op := fun n => cond (Nat.beq n 2390) (some (oLcmp 90 2391)) (cond (Nat.beq n 2391) (some (oCmp1 90 2394 2396 .eq)) (cond (Nat.beq n 2396) (some (oGoto 90 3276)) (none)))
noncomputable def rw_90rrlllllrr : Nat → Option Op := fun n => cond (Nat.beq n 2399) (some (oLoad 90 2400 1 4)) (cond (Nat.beq n 2400) (some (oLoad 90 2401 0 4)) (cond (Nat.beq n 2401) (some (oLoad 90 2403 5 0)) (none)))
noncomputable def rw_90rrlllllr : Nat → Option Op := fun n => cond (Nat.blt n 2399) (rw_90rrlllllrl n) (rw_90rrlllllrr n)
noncomputable def rw_90rrlllll : Nat → Option Op := fun n => cond (Nat.blt n 2390) (rw_90rrllllll n) (rw_90rrlllllr n)
noncomputable def rw_90rrllllrll : Nat → Option Op := fun n => cond (Nat.beq n 2403) (some (oPush 90 2404 (.int (Int32.ofInt (1))))) (cond (Nat.beq n 2404) (some (oBin sdv 90 2405 0)) (cond (Nat.beq n 2405) (some (oIald 90 2406)) (none)))
noncomputable def rw_90rrllllrlr : Nat → Option Op := fun n => cond (Nat.beq n 2406) (some (oLoad 90 2407 3 4)) (cond (Nat.beq n 2407) (some (oCall (runC 106) 90 2410 1 3 0 4 hdN)) (cond (Nat.beq n 2410) (some (oStore 90 2412 6 0)) (none)))
noncomputable def rw_90rrllllrl : Nat → Option Op := fun n => cond (Nat.blt n 2406) (rw_90rrllllrll n) (rw_90rrllllrlr n)
noncomputable def rw_90rrllllrrl : Nat → Option Op := fun n => cond (Nat.beq n 2412) (some (oLoad 90 2413 2 4)) (cond (Nat.beq n 2413) (some (oLoad 90 2414 0 4)) (cond (Nat.beq n 2414) (some (oLoad 90 2416 5 0)) (none)))
noncomputable def rw_90rrllllrrr : Nat → Option Op := fun n => cond (Nat.beq n 2416) (some (oPush 90 2417 (.int (Int32.ofInt (1))))) (cond (Nat.beq n 2417) (some (oBin sdv 90 2418 0)) (cond (Nat.beq n 2418) (some (oIald 90 2419)) (none)))
noncomputable def rw_90rrllllrr : Nat → Option Op := fun n => cond (Nat.blt n 2416) (rw_90rrllllrrl n) (rw_90rrllllrrr n)
noncomputable def rw_90rrllllr : Nat → Option Op := fun n => cond (Nat.blt n 2412) (rw_90rrllllrl n) (rw_90rrllllrr n)
noncomputable def rw_90rrllll : Nat → Option Op := fun n => cond (Nat.blt n 2403) (rw_90rrlllll n) (rw_90rrllllr n)
noncomputable def rw_90rrlllrlll : Nat → Option Op := fun n => cond (Nat.beq n 2419) (some (oCall (runC 165) 90 2422 2 2 2 2 hdN)) (cond (Nat.beq n 2422) (some (oStore 90 2424 7 0)) (none))
noncomputable def rw_90rrlllrllr : Nat → Option Op := fun n => cond (Nat.beq n 2424) (some (oLoad 90 2425 2 4)) (cond (Nat.beq n 2425) (some (oCall (runC 170) 90 2428 2 1 2 1 hdN)) (cond (Nat.beq n 2428) (some (oLoad 90 2430 6 0)) (none)))
noncomputable def rw_90rrlllrll : Nat → Option Op := fun n => cond (Nat.blt n 2424) (rw_90rrlllrlll n) (rw_90rrlllrllr n)
noncomputable def rw_90rrlllrlrl : Nat → Option Op := fun n => cond (Nat.beq n 2430) (some (oCmp2 90 2433 2435 .eq)) (cond (Nat.beq n 2435) (some (oLoad 90 2437 6 0)) (cond (Nat.beq n 2437) (some (oCmp1 90 2440 2452 .ne)) (none)))
noncomputable def rw_90rrlllrlrr : Nat → Option Op := fun n => cond (Nat.beq n 2452) (some (oGoto 90 3276)) (cond (Nat.beq n 2455) (some (oLoad 90 2456 1 4)) (cond (Nat.beq n 2456) (some (oLoad 90 2457 0 4)) (none)))
noncomputable def rw_90rrlllrlr : Nat → Option Op := fun n => cond (Nat.blt n 2452) (rw_90rrlllrlrl n) (rw_90rrlllrlrr n)
noncomputable def rw_90rrlllrl : Nat → Option Op := fun n => cond (Nat.blt n 2430) (rw_90rrlllrll n) (rw_90rrlllrlr n)
noncomputable def rw_90rrlllrrll : Nat → Option Op := fun n => cond (Nat.beq n 2457) (some (oLoad 90 2459 5 0)) (cond (Nat.beq n 2459) (some (oPush 90 2460 (.int (Int32.ofInt (1))))) (cond (Nat.beq n 2460) (some (oBin sdv 90 2461 0)) (none)))
noncomputable def rw_90rrlllrrlr : Nat → Option Op := fun n => cond (Nat.beq n 2461) (some (oIald 90 2462)) (cond (Nat.beq n 2462) (some (oLoad 90 2463 3 4)) (cond (Nat.beq n 2463) (some (oCall (runC 87) 90 2466 1 3 0 4 hdN)) (none)))
noncomputable def rw_90rrlllrrl : Nat → Option Op := fun n => cond (Nat.blt n 2461) (rw_90rrlllrrll n) (rw_90rrlllrrlr n)
noncomputable def rw_90rrlllrrrl : Nat → Option Op := fun n => cond (Nat.beq n 2466) (some (oStore 90 2468 6 0)) (cond (Nat.beq n 2468) (some (oLoad 90 2469 2 4)) (cond (Nat.beq n 2469) (some (oLoad 90 2470 0 4)) (none)))
noncomputable def rw_90rrlllrrrr : Nat → Option Op := fun n => cond (Nat.beq n 2470) (some (oLoad 90 2472 5 0)) (cond (Nat.beq n 2472) (some (oPush 90 2473 (.int (Int32.ofInt (1))))) (cond (Nat.beq n 2473) (some (oBin sdv 90 2474 0)) (none)))
noncomputable def rw_90rrlllrrr : Nat → Option Op := fun n => cond (Nat.blt n 2470) (rw_90rrlllrrrl n) (rw_90rrlllrrrr n)
noncomputable def rw_90rrlllrr : Nat → Option Op := fun n => cond (Nat.blt n 2466) (rw_90rrlllrrl n) (rw_90rrlllrrr n)
noncomputable def rw_90rrlllr : Nat → Option Op := fun n => cond (Nat.blt n 2457) (rw_90rrlllrl n) (rw_90rrlllrr n)
noncomputable def rw_90rrlll : Nat → Option Op := fun n => cond (Nat.blt n 2419) (rw_90rrllll n) (rw_90rrlllr n)
noncomputable def rw_90rrllrllll : Nat → Option Op := fun n => cond (Nat.beq n 2474) (some (oIald 90 2475)) (cond (Nat.beq n 2475) (some (oCall (runC 137) 90 2478 2 2 2 2 hdN)) (none))
noncomputable def rw_90rrllrlllr : Nat → Option Op := fun n => cond (Nat.beq n 2478) (some (oStore 90 2480 7 0)) (cond (Nat.beq n 2480) (some (oLoad 90 2481 2 4)) (cond (Nat.beq n 2481) (some (oCall (runC 170) 90 2484 2 1 2 1 hdN)) (none)))
noncomputable def rw_90rrllrlll : Nat → Option Op := fun n => cond (Nat.blt n 2478) (rw_90rrllrllll n) (rw_90rrllrlllr n)
noncomputable def rw_90rrllrllrl : Nat → Option Op := fun n => cond (Nat.beq n 2484) (some (oLoad 90 2486 6 0)) (cond (Nat.beq n 2486) (some (oCmp2 90 2489 2491 .eq)) (cond (Nat.beq n 2491) (some (oLoad 90 2493 6 0)) (none)))
noncomputable def rw_90rrllrllrr : Nat → Option Op := fun n => cond (Nat.beq n 2493) (some (oCmp1 90 2496 2515 .ne)) (cond (Nat.beq n 2515) (some (oGoto 90 3276)) (cond (Nat.beq n 2518) (some (oLoad 90 2519 1 4)) (none)))
noncomputable def rw_90rrllrllr : Nat → Option Op := fun n => cond (Nat.blt n 2493) (rw_90rrllrllrl n) (rw_90rrllrllrr n)
noncomputable def rw_90rrllrll : Nat → Option Op := fun n => cond (Nat.blt n 2484) (rw_90rrllrlll n) (rw_90rrllrllr n)
noncomputable def rw_90rrllrlrll : Nat → Option Op := fun n => cond (Nat.beq n 2519) (some (oLoad 90 2520 0 4)) (cond (Nat.beq n 2520) (some (oLoad 90 2522 5 0)) (cond (Nat.beq n 2522) (some (oPush 90 2523 (.int (Int32.ofInt (1))))) (none)))
noncomputable def rw_90rrllrlrlr : Nat → Option Op := fun n => cond (Nat.beq n 2523) (some (oBin sdv 90 2524 0)) (cond (Nat.beq n 2524) (some (oIald 90 2525)) (cond (Nat.beq n 2525) (some (oLoad 90 2526 0 4)) (none)))
noncomputable def rw_90rrllrlrl : Nat → Option Op := fun n => cond (Nat.blt n 2523) (rw_90rrllrlrll n) (rw_90rrllrlrlr n)
noncomputable def rw_90rrllrlrrl : Nat → Option Op := fun n => cond (Nat.beq n 2526) (some (oLoad 90 2528 5 0)) (cond (Nat.beq n 2528) (some (oPush 90 2529 (.int (Int32.ofInt (2))))) (cond (Nat.beq n 2529) (some (oBin sdv 90 2530 0)) (none)))
noncomputable def rw_90rrllrlrrr : Nat → Option Op := fun n => cond (Nat.beq n 2530) (some (oIald 90 2531)) (cond (Nat.beq n 2531) (some (oLoad 90 2532 0 4)) (cond (Nat.beq n 2532) (some (oLoad 90 2534 5 0)) (none)))
noncomputable def rw_90rrllrlrr : Nat → Option Op := fun n => cond (Nat.blt n 2530) (rw_90rrllrlrrl n) (rw_90rrllrlrrr n)
noncomputable def rw_90rrllrlr : Nat → Option Op := fun n => cond (Nat.blt n 2526) (rw_90rrllrlrl n) (rw_90rrllrlrr n)
noncomputable def rw_90rrllrl : Nat → Option Op := fun n => cond (Nat.blt n 2519) (rw_90rrllrll n) (rw_90rrllrlr n)
noncomputable def rw_90rrllrrlll : Nat → Option Op := fun n => cond (Nat.beq n 2534) (some (oPush 90 2535 (.int (Int32.ofInt (3))))) (cond (Nat.beq n 2535) (some (oBin sdv 90 2536 0)) (cond (Nat.beq n 2536) (some (oIald 90 2537)) (none)))
noncomputable def rw_90rrllrrllr : Nat → Option Op := fun n => cond (Nat.beq n 2537) (some (oLoad 90 2538 0 4)) (cond (Nat.beq n 2538) (some (oLoad 90 2540 5 0)) (cond (Nat.beq n 2540) (some (oPush 90 2541 (.int (Int32.ofInt (4))))) (none)))
noncomputable def rw_90rrllrrll : Nat → Option Op := fun n => cond (Nat.blt n 2537) (rw_90rrllrrlll n) (rw_90rrllrrllr n)
noncomputable def rw_90rrllrrlrl : Nat → Option Op := fun n => cond (Nat.beq n 2541) (some (oBin sdv 90 2542 0)) (cond (Nat.beq n 2542) (some (oIald 90 2543)) (cond (Nat.beq n 2543) (some (oLoad 90 2544 0 4)) (none)))
noncomputable def rw_90rrllrrlrr : Nat → Option Op := fun n => cond (Nat.beq n 2544) (some (oLoad 90 2546 5 0)) (cond (Nat.beq n 2546) (some (oPush 90 2547 (.int (Int32.ofInt (5))))) (cond (Nat.beq n 2547) (some (oBin sdv 90 2548 0)) (none)))
noncomputable def rw_90rrllrrlr : Nat → Option Op := fun n => cond (Nat.blt n 2544) (rw_90rrllrrlrl n) (rw_90rrllrrlrr n)
noncomputable def rw_90rrllrrl : Nat → Option Op := fun n => cond (Nat.blt n 2541) (rw_90rrllrrll n) (rw_90rrllrrlr n)
noncomputable def rw_90rrllrrrll : Nat → Option Op := fun n => cond (Nat.beq n 2548) (some (oIald 90 2549)) (cond (Nat.beq n 2549) (some (oLoad 90 2550 3 4)) (cond (Nat.beq n 2550) (some (oCall (runC 98) 90 2553 1 7 0 8 hdN)) (none)))
noncomputable def rw_90rrllrrrlr : Nat → Option Op := fun n => cond (Nat.beq n 2553) (some (oStore 90 2555 6 0)) (cond (Nat.beq n 2555) (some (oLoad 90 2556 2 4)) (cond (Nat.beq n 2556) (some (oLoad 90 2557 0 4)) (none)))
noncomputable def rw_90rrllrrrl : Nat → Option Op := fun n => cond (Nat.blt n 2553) (rw_90rrllrrrll n) (rw_90rrllrrrlr n)
noncomputable def rw_90rrllrrrrl : Nat → Option Op := fun n => cond (Nat.beq n 2557) (some (oLoad 90 2559 5 0)) (cond (Nat.beq n 2559) (some (oPush 90 2560 (.int (Int32.ofInt (1))))) (cond (Nat.beq n 2560) (some (oBin sdv 90 2561 0)) (none)))
noncomputable def rw_90rrllrrrrr : Nat → Option Op := fun n => cond (Nat.beq n 2561) (some (oIald 90 2562)) (cond (Nat.beq n 2562) (some (oLoad 90 2563 0 4)) (cond (Nat.beq n 2563) (some (oLoad 90 2565 5 0)) (none)))
noncomputable def rw_90rrllrrrr : Nat → Option Op := fun n => cond (Nat.blt n 2561) (rw_90rrllrrrrl n) (rw_90rrllrrrrr n)
noncomputable def rw_90rrllrrr : Nat → Option Op := fun n => cond (Nat.blt n 2557) (rw_90rrllrrrl n) (rw_90rrllrrrr n)
noncomputable def rw_90rrllrr : Nat → Option Op := fun n => cond (Nat.blt n 2548) (rw_90rrllrrl n) (rw_90rrllrrr n)
noncomputable def rw_90rrllr : Nat → Option Op := fun n => cond (Nat.blt n 2534) (rw_90rrllrl n) (rw_90rrllrr n)
noncomputable def rw_90rrll : Nat → Option Op := fun n => cond (Nat.blt n 2474) (rw_90rrlll n) (rw_90rrllr n)
noncomputable def rw_90rrlrlllll : Nat → Option Op := fun n => cond (Nat.beq n 2565) (some (oPush 90 2566 (.int (Int32.ofInt (2))))) (cond (Nat.beq n 2566) (some (oBin sdv 90 2567 0)) (none))
noncomputable def rw_90rrlrllllr : Nat → Option Op := fun n => cond (Nat.beq n 2567) (some (oIald 90 2568)) (cond (Nat.beq n 2568) (some (oLoad 90 2569 0 4)) (cond (Nat.beq n 2569) (some (oLoad 90 2571 5 0)) (none)))
noncomputable def rw_90rrlrllll : Nat → Option Op := fun n => cond (Nat.blt n 2567) (rw_90rrlrlllll n) (rw_90rrlrllllr n)
noncomputable def rw_90rrlrlllrl : Nat → Option Op := fun n => cond (Nat.beq n 2571) (some (oPush 90 2572 (.int (Int32.ofInt (3))))) (cond (Nat.beq n 2572) (some (oBin sdv 90 2573 0)) (cond (Nat.beq n 2573) (some (oIald 90 2574)) (none)))
noncomputable def rw_90rrlrlllrr : Nat → Option Op := fun n => cond (Nat.beq n 2574) (some (oLoad 90 2575 0 4)) (cond (Nat.beq n 2575) (some (oLoad 90 2577 5 0)) (cond (Nat.beq n 2577) (some (oPush 90 2578 (.int (Int32.ofInt (4))))) (none)))
noncomputable def rw_90rrlrlllr : Nat → Option Op := fun n => cond (Nat.blt n 2574) (rw_90rrlrlllrl n) (rw_90rrlrlllrr n)
noncomputable def rw_90rrlrlll : Nat → Option Op := fun n => cond (Nat.blt n 2571) (rw_90rrlrllll n) (rw_90rrlrlllr n)
noncomputable def rw_90rrlrllrll : Nat → Option Op := fun n => cond (Nat.beq n 2578) (some (oBin sdv 90 2579 0)) (cond (Nat.beq n 2579) (some (oIald 90 2580)) (cond (Nat.beq n 2580) (some (oLoad 90 2581 0 4)) (none)))
noncomputable def rw_90rrlrllrlr : Nat → Option Op := fun n => cond (Nat.beq n 2581) (some (oLoad 90 2583 5 0)) (cond (Nat.beq n 2583) (some (oPush 90 2584 (.int (Int32.ofInt (5))))) (cond (Nat.beq n 2584) (some (oBin sdv 90 2585 0)) (none)))
noncomputable def rw_90rrlrllrl : Nat → Option Op := fun n => cond (Nat.blt n 2581) (rw_90rrlrllrll n) (rw_90rrlrllrlr n)
noncomputable def rw_90rrlrllrrl : Nat → Option Op := fun n => cond (Nat.beq n 2585) (some (oIald 90 2586)) (cond (Nat.beq n 2586) (some (oCall (runC 156) 90 2589 2 6 2 13 hdN)) (cond (Nat.beq n 2589) (some (oStore 90 2591 7 0)) (none)))
noncomputable def rw_90rrlrllrrr : Nat → Option Op := fun n => cond (Nat.beq n 2591) (some (oLoad 90 2592 2 4)) (cond (Nat.beq n 2592) (some (oCall (runC 170) 90 2595 2 1 2 1 hdN)) (cond (Nat.beq n 2595) (some (oLoad 90 2597 6 0)) (none)))
noncomputable def rw_90rrlrllrr : Nat → Option Op := fun n => cond (Nat.blt n 2591) (rw_90rrlrllrrl n) (rw_90rrlrllrrr n)
noncomputable def rw_90rrlrllr : Nat → Option Op := fun n => cond (Nat.blt n 2585) (rw_90rrlrllrl n) (rw_90rrlrllrr n)
noncomputable def rw_90rrlrll : Nat → Option Op := fun n => cond (Nat.blt n 2578) (rw_90rrlrlll n) (rw_90rrlrllr n)
noncomputable def rw_90rrlrlrlll : Nat → Option Op := fun n => cond (Nat.beq n 2597) (some (oCmp2 90 2600 2602 .eq)) (cond (Nat.beq n 2602) (some (oLoad 90 2604 6 0)) (none))
noncomputable def rw_90rrlrlrllr : Nat → Option Op := fun n => cond (Nat.beq n 2604) (some (oCmp1 90 2607 2619 .ne)) (cond (Nat.beq n 2619) (some (oGoto 90 3276)) (cond (Nat.beq n 2622) (some (oLoad 90 2623 1 4)) (none)))
noncomputable def rw_90rrlrlrll : Nat → Option Op := fun n => cond (Nat.blt n 2604) (rw_90rrlrlrlll n) (rw_90rrlrlrllr n)
noncomputable def rw_90rrlrlrlrl : Nat → Option Op := fun n => cond (Nat.beq n 2623) (some (oLoad 90 2624 0 4)) (cond (Nat.beq n 2624) (some (oLoad 90 2626 5 0)) (cond (Nat.beq n 2626) (some (oPush 90 2627 (.int (Int32.ofInt (1))))) (none)))
noncomputable def rw_90rrlrlrlrr : Nat → Option Op := fun n => cond (Nat.beq n 2627) (some (oBin sdv 90 2628 0)) (cond (Nat.beq n 2628) (some (oIald 90 2629)) (cond (Nat.beq n 2629) (some (oLoad 90 2630 0 4)) (none)))
noncomputable def rw_90rrlrlrlr : Nat → Option Op := fun n => cond (Nat.blt n 2627) (rw_90rrlrlrlrl n) (rw_90rrlrlrlrr n)
noncomputable def rw_90rrlrlrl : Nat → Option Op := fun n => cond (Nat.blt n 2623) (rw_90rrlrlrll n) (rw_90rrlrlrlr n)
noncomputable def rw_90rrlrlrrll : Nat → Option Op := fun n => cond (Nat.beq n 2630) (some (oLoad 90 2632 5 0)) (cond (Nat.beq n 2632) (some (oPush 90 2633 (.int (Int32.ofInt (2))))) (cond (Nat.beq n 2633) (some (oBin sdv 90 2634 0)) (none)))
noncomputable def rw_90rrlrlrrlr : Nat → Option Op := fun n => cond (Nat.beq n 2634) (some (oIald 90 2635)) (cond (Nat.beq n 2635) (some (oLoad 90 2636 0 4)) (cond (Nat.beq n 2636) (some (oLoad 90 2638 5 0)) (none)))
noncomputable def rw_90rrlrlrrl : Nat → Option Op := fun n => cond (Nat.blt n 2634) (rw_90rrlrlrrll n) (rw_90rrlrlrrlr n)
noncomputable def rw_90rrlrlrrrl : Nat → Option Op := fun n => cond (Nat.beq n 2638) (some (oPush 90 2639 (.int (Int32.ofInt (3))))) (cond (Nat.beq n 2639) (some (oBin sdv 90 2640 0)) (cond (Nat.beq n 2640) (some (oIald 90 2641)) (none)))
noncomputable def rw_90rrlrlrrrr : Nat → Option Op := fun n => cond (Nat.beq n 2641) (some (oCmp1 90 2644 2648 .eq)) (cond (Nat.beq n 2644) (some (oPush 90 2645 (.int (Int32.ofInt (1))))) (cond (Nat.beq n 2645) (some (oGoto 90 2649)) (none)))
noncomputable def rw_90rrlrlrrr : Nat → Option Op := fun n => cond (Nat.blt n 2641) (rw_90rrlrlrrrl n) (rw_90rrlrlrrrr n)
noncomputable def rw_90rrlrlrr : Nat → Option Op := fun n => cond (Nat.blt n 2638) (rw_90rrlrlrrl n) (rw_90rrlrlrrr n)
noncomputable def rw_90rrlrlr : Nat → Option Op := fun n => cond (Nat.blt n 2630) (rw_90rrlrlrl n) (rw_90rrlrlrr n)
noncomputable def rw_90rrlrl : Nat → Option Op := fun n => cond (Nat.blt n 2597) (rw_90rrlrll n) (rw_90rrlrlr n)
noncomputable def rw_90rrlrrllll : Nat → Option Op := fun n => cond (Nat.beq n 2648) (some (oPush 90 2649 (.int (Int32.ofInt (0))))) (cond (Nat.beq n 2649) (some (oLoad 90 2650 3 4)) (none))
noncomputable def rw_90rrlrrlllr : Nat → Option Op := fun n => cond (Nat.beq n 2650) (some (oCall (runC 79) 90 2653 1 5 0 6 hdN)) (cond (Nat.beq n 2653) (some (oStore 90 2655 6 0)) (cond (Nat.beq n 2655) (some (oLoad 90 2656 2 4)) (none)))
noncomputable def rw_90rrlrrlll : Nat → Option Op := fun n => cond (Nat.blt n 2650) (rw_90rrlrrllll n) (rw_90rrlrrlllr n)
noncomputable def rw_90rrlrrllrl : Nat → Option Op := fun n => cond (Nat.beq n 2656) (some (oLoad 90 2657 0 4)) (cond (Nat.beq n 2657) (some (oLoad 90 2659 5 0)) (cond (Nat.beq n 2659) (some (oPush 90 2660 (.int (Int32.ofInt (1))))) (none)))
noncomputable def rw_90rrlrrllrr : Nat → Option Op := fun n => cond (Nat.beq n 2660) (some (oBin sdv 90 2661 0)) (cond (Nat.beq n 2661) (some (oIald 90 2662)) (cond (Nat.beq n 2662) (some (oLoad 90 2663 0 4)) (none)))
noncomputable def rw_90rrlrrllr : Nat → Option Op := fun n => cond (Nat.blt n 2660) (rw_90rrlrrllrl n) (rw_90rrlrrllrr n)
noncomputable def rw_90rrlrrll : Nat → Option Op := fun n => cond (Nat.blt n 2656) (rw_90rrlrrlll n) (rw_90rrlrrllr n)
noncomputable def rw_90rrlrrlrll : Nat → Option Op := fun n => cond (Nat.beq n 2663) (some (oLoad 90 2665 5 0)) (cond (Nat.beq n 2665) (some (oPush 90 2666 (.int (Int32.ofInt (2))))) (cond (Nat.beq n 2666) (some (oBin sdv 90 2667 0)) (none)))
noncomputable def rw_90rrlrrlrlr : Nat → Option Op := fun n => cond (Nat.beq n 2667) (some (oIald 90 2668)) (cond (Nat.beq n 2668) (some (oLoad 90 2669 0 4)) (cond (Nat.beq n 2669) (some (oLoad 90 2671 5 0)) (none)))
noncomputable def rw_90rrlrrlrl : Nat → Option Op := fun n => cond (Nat.blt n 2667) (rw_90rrlrrlrll n) (rw_90rrlrrlrlr n)
noncomputable def rw_90rrlrrlrrl : Nat → Option Op := fun n => cond (Nat.beq n 2671) (some (oPush 90 2672 (.int (Int32.ofInt (3))))) (cond (Nat.beq n 2672) (some (oBin sdv 90 2673 0)) (cond (Nat.beq n 2673) (some (oIald 90 2674)) (none)))
noncomputable def rw_90rrlrrlrrr : Nat → Option Op := fun n => cond (Nat.beq n 2674) (some (oCmp1 90 2677 2681 .eq)) (cond (Nat.beq n 2677) (some (oPush 90 2678 (.int (Int32.ofInt (1))))) (cond (Nat.beq n 2678) (some (oGoto 90 2682)) (none)))
noncomputable def rw_90rrlrrlrr : Nat → Option Op := fun n => cond (Nat.blt n 2674) (rw_90rrlrrlrrl n) (rw_90rrlrrlrrr n)
noncomputable def rw_90rrlrrlr : Nat → Option Op := fun n => cond (Nat.blt n 2671) (rw_90rrlrrlrl n) (rw_90rrlrrlrr n)
noncomputable def rw_90rrlrrl : Nat → Option Op := fun n => cond (Nat.blt n 2663) (rw_90rrlrrll n) (rw_90rrlrrlr n)
noncomputable def rw_90rrlrrrlll : Nat → Option Op := fun n => cond (Nat.beq n 2681) (some (oPush 90 2682 (.int (Int32.ofInt (0))))) (cond (Nat.beq n 2682) (some (oCall (runC 127) 90 2685 2 4 2 4 hdN)) (cond (Nat.beq n 2685) (some (oStore 90 2687 7 0)) (none)))
noncomputable def rw_90rrlrrrllr : Nat → Option Op := fun n => cond (Nat.beq n 2687) (some (oLoad 90 2688 2 4)) (cond (Nat.beq n 2688) (some (oCall (runC 170) 90 2691 2 1 2 1 hdN)) (cond (Nat.beq n 2691) (some (oLoad 90 2693 6 0)) (none)))
noncomputable def rw_90rrlrrrll : Nat → Option Op := fun n => cond (Nat.blt n 2687) (rw_90rrlrrrlll n) (rw_90rrlrrrllr n)
noncomputable def rw_90rrlrrrlrl : Nat → Option Op := fun n => cond (Nat.beq n 2693) (some (oCmp2 90 2696 2698 .eq)) (cond (Nat.beq n 2698) (some (oLoad 90 2700 6 0)) (cond (Nat.beq n 2700) (some (oCmp1 90 2703 2722 .ne)) (none)))
noncomputable def rw_90rrlrrrlrr : Nat → Option Op := fun n => cond (Nat.beq n 2722) (some (oGoto 90 3276)) (cond (Nat.beq n 2725) (some (oLoad 90 2726 1 4)) (cond (Nat.beq n 2726) (some (oLoad 90 2727 3 4)) (none)))
noncomputable def rw_90rrlrrrlr : Nat → Option Op := fun n => cond (Nat.blt n 2722) (rw_90rrlrrrlrl n) (rw_90rrlrrrlrr n)
noncomputable def rw_90rrlrrrl : Nat → Option Op := fun n => cond (Nat.blt n 2693) (rw_90rrlrrrll n) (rw_90rrlrrrlr n)
noncomputable def rw_90rrlrrrrll : Nat → Option Op := fun n => cond (Nat.beq n 2727) (some (oCall (runC 75) 90 2730 1 2 0 3 hdN)) (cond (Nat.beq n 2730) (some (oStore 90 2732 6 0)) (cond (Nat.beq n 2732) (some (oLoad 90 2733 2 4)) (none)))
noncomputable def rw_90rrlrrrrlr : Nat → Option Op := fun n => cond (Nat.beq n 2733) (some (oCall (runC 122) 90 2736 2 1 2 4 hdN)) (cond (Nat.beq n 2736) (some (oStore 90 2738 7 0)) (cond (Nat.beq n 2738) (some (oLoad 90 2739 2 4)) (none)))
noncomputable def rw_90rrlrrrrl : Nat → Option Op := fun n => cond (Nat.blt n 2733) (rw_90rrlrrrrll n) (rw_90rrlrrrrlr n)
noncomputable def rw_90rrlrrrrrl : Nat → Option Op := fun n => cond (Nat.beq n 2739) (some (oCall (runC 170) 90 2742 2 1 2 1 hdN)) (cond (Nat.beq n 2742) (some (oLoad 90 2744 6 0)) (cond (Nat.beq n 2744) (some (oCmp2 90 2747 2749 .eq)) (none)))
noncomputable def rw_90rrlrrrrrr : Nat → Option Op := fun n => cond (Nat.beq n 2749) (some (oLoad 90 2751 6 0)) (cond (Nat.beq n 2751) (some (oCmp1 90 2754 2766 .ne)) (cond (Nat.beq n 2766) (some (oGoto 90 3276)) (none)))
noncomputable def rw_90rrlrrrrr : Nat → Option Op := fun n => cond (Nat.blt n 2749) (rw_90rrlrrrrrl n) (rw_90rrlrrrrrr n)
noncomputable def rw_90rrlrrrr : Nat → Option Op := fun n => cond (Nat.blt n 2739) (rw_90rrlrrrrl n) (rw_90rrlrrrrr n)
noncomputable def rw_90rrlrrr : Nat → Option Op := fun n => cond (Nat.blt n 2727) (rw_90rrlrrrl n) (rw_90rrlrrrr n)
noncomputable def rw_90rrlrr : Nat → Option Op := fun n => cond (Nat.blt n 2681) (rw_90rrlrrl n) (rw_90rrlrrr n)
noncomputable def rw_90rrlr : Nat → Option Op := fun n => cond (Nat.blt n 2648) (rw_90rrlrl n) (rw_90rrlrr n)
noncomputable def rw_90rrl : Nat → Option Op := fun n => cond (Nat.blt n 2565) (rw_90rrll n) (rw_90rrlr n)
noncomputable def rw_90rrrllllll : Nat → Option Op := fun n => cond (Nat.beq n 2769) (some (oLoad 90 2770 1 4)) (cond (Nat.beq n 2770) (some (oLoad 90 2771 3 4)) (none))
noncomputable def rw_90rrrlllllr : Nat → Option Op := fun n => cond (Nat.beq n 2771) (some (oCall (runC 104) 90 2774 1 2 0 3 hdN)) (cond (Nat.beq n 2774) (some (oStore 90 2776 6 0)) (cond (Nat.beq n 2776) (some (oLoad 90 2777 2 4)) (none)))
noncomputable def rw_90rrrlllll : Nat → Option Op := fun n => cond (Nat.blt n 2771) (rw_90rrrllllll n) (rw_90rrrlllllr n)
noncomputable def rw_90rrrllllrl : Nat → Option Op := fun n => cond (Nat.beq n 2777) (some (oCall (runC 163) 90 2780 2 1 2 2 hdN)) (cond (Nat.beq n 2780) (some (oStore 90 2782 7 0)) (cond (Nat.beq n 2782) (some (oLoad 90 2783 2 4)) (none)))
noncomputable def rw_90rrrllllrr : Nat → Option Op := fun n => cond (Nat.beq n 2783) (some (oCall (runC 170) 90 2786 2 1 2 1 hdN)) (cond (Nat.beq n 2786) (some (oLoad 90 2788 6 0)) (cond (Nat.beq n 2788) (some (oCmp2 90 2791 2793 .eq)) (none)))
noncomputable def rw_90rrrllllr : Nat → Option Op := fun n => cond (Nat.blt n 2783) (rw_90rrrllllrl n) (rw_90rrrllllrr n)
noncomputable def rw_90rrrllll : Nat → Option Op := fun n => cond (Nat.blt n 2777) (rw_90rrrlllll n) (rw_90rrrllllr n)
noncomputable def rw_90rrrlllrll : Nat → Option Op := fun n => cond (Nat.beq n 2793) (some (oLoad 90 2795 6 0)) (cond (Nat.beq n 2795) (some (oCmp1 90 2798 2810 .ne)) (cond (Nat.beq n 2810) (some (oGoto 90 3276)) (none)))
noncomputable def rw_90rrrlllrlr : Nat → Option Op := fun n => cond (Nat.beq n 2813) (some (oLoad 90 2814 1 4)) (cond (Nat.beq n 2814) (some (oLoad 90 2815 3 4)) (cond (Nat.beq n 2815) (some (oCall (runC 84) 90 2818 1 2 0 3 hdN)) (none)))
noncomputable def rw_90rrrlllrl : Nat → Option Op := fun n => cond (Nat.blt n 2813) (rw_90rrrlllrll n) (rw_90rrrlllrlr n)
noncomputable def rw_90rrrlllrrl : Nat → Option Op := fun n => cond (Nat.beq n 2818) (some (oStore 90 2820 6 0)) (cond (Nat.beq n 2820) (some (oLoad 90 2821 2 4)) (cond (Nat.beq n 2821) (some (oCall (runC 132) 90 2824 2 1 2 1 hdN)) (none)))
noncomputable def rw_90rrrlllrrr : Nat → Option Op := fun n => cond (Nat.beq n 2824) (some (oStore 90 2826 7 0)) (cond (Nat.beq n 2826) (some (oLoad 90 2827 2 4)) (cond (Nat.beq n 2827) (some (oCall (runC 170) 90 2830 2 1 2 1 hdN)) (none)))
noncomputable def rw_90rrrlllrr : Nat → Option Op := fun n => cond (Nat.blt n 2824) (rw_90rrrlllrrl n) (rw_90rrrlllrrr n)
noncomputable def rw_90rrrlllr : Nat → Option Op := fun n => cond (Nat.blt n 2818) (rw_90rrrlllrl n) (rw_90rrrlllrr n)
noncomputable def rw_90rrrlll : Nat → Option Op := fun n => cond (Nat.blt n 2793) (rw_90rrrllll n) (rw_90rrrlllr n)
noncomputable def rw_90rrrllrlll : Nat → Option Op := fun n => cond (Nat.beq n 2830) (some (oLoad 90 2832 6 0)) (cond (Nat.beq n 2832) (some (oCmp2 90 2835 2837 .eq)) (none))
noncomputable def rw_90rrrllrllr : Nat → Option Op := fun n => cond (Nat.beq n 2837) (some (oLoad 90 2839 6 0)) (cond (Nat.beq n 2839) (some (oCmp1 90 2842 2854 .ne)) (cond (Nat.beq n 2854) (some (oGoto 90 3276)) (none)))
noncomputable def rw_90rrrllrll : Nat → Option Op := fun n => cond (Nat.blt n 2837) (rw_90rrrllrlll n) (rw_90rrrllrllr n)
noncomputable def rw_90rrrllrlrl : Nat → Option Op := fun n => cond (Nat.beq n 2857) (some (oLoad 90 2858 1 4)) (cond (Nat.beq n 2858) (some (oLoad 90 2859 0 4)) (cond (Nat.beq n 2859) (some (oLoad 90 2861 5 0)) (none)))
noncomputable def rw_90rrrllrlrr : Nat → Option Op := fun n => cond (Nat.beq n 2861) (some (oPush 90 2862 (.int (Int32.ofInt (1))))) (cond (Nat.beq n 2862) (some (oBin sdv 90 2863 0)) (cond (Nat.beq n 2863) (some (oIald 90 2864)) (none)))
noncomputable def rw_90rrrllrlr : Nat → Option Op := fun n => cond (Nat.blt n 2861) (rw_90rrrllrlrl n) (rw_90rrrllrlrr n)
noncomputable def rw_90rrrllrl : Nat → Option Op := fun n => cond (Nat.blt n 2857) (rw_90rrrllrll n) (rw_90rrrllrlr n)
noncomputable def rw_90rrrllrrll : Nat → Option Op := fun n => cond (Nat.beq n 2864) (some (oLoad 90 2865 3 4)) (cond (Nat.beq n 2865) (some (oCall (runC 111) 90 2868 1 3 0 4 hdN)) (cond (Nat.beq n 2868) (some (oStore 90 2870 6 0)) (none)))
noncomputable def rw_90rrrllrrlr : Nat → Option Op := fun n => cond (Nat.beq n 2870) (some (oLoad 90 2871 2 4)) (cond (Nat.beq n 2871) (some (oLoad 90 2872 0 4)) (cond (Nat.beq n 2872) (some (oLoad 90 2874 5 0)) (none)))
noncomputable def rw_90rrrllrrl : Nat → Option Op := fun n => cond (Nat.blt n 2870) (rw_90rrrllrrll n) (rw_90rrrllrrlr n)
noncomputable def rw_90rrrllrrrl : Nat → Option Op := fun n => cond (Nat.beq n 2874) (some (oPush 90 2875 (.int (Int32.ofInt (1))))) (cond (Nat.beq n 2875) (some (oBin sdv 90 2876 0)) (cond (Nat.beq n 2876) (some (oIald 90 2877)) (none)))
noncomputable def rw_90rrrllrrrr : Nat → Option Op := fun n => cond (Nat.beq n 2877) (some (oCall (runC 171) 90 2880 2 2 2 6 hdN)) (cond (Nat.beq n 2880) (some (oStore 90 2882 7 0)) (cond (Nat.beq n 2882) (some (oLoad 90 2883 2 4)) (none)))
noncomputable def rw_90rrrllrrr : Nat → Option Op := fun n => cond (Nat.blt n 2877) (rw_90rrrllrrrl n) (rw_90rrrllrrrr n)
noncomputable def rw_90rrrllrr : Nat → Option Op := fun n => cond (Nat.blt n 2874) (rw_90rrrllrrl n) (rw_90rrrllrrr n)
noncomputable def rw_90rrrllr : Nat → Option Op := fun n => cond (Nat.blt n 2864) (rw_90rrrllrl n) (rw_90rrrllrr n)
noncomputable def rw_90rrrll : Nat → Option Op := fun n => cond (Nat.blt n 2830) (rw_90rrrlll n) (rw_90rrrllr n)
noncomputable def rw_90rrrlrllll : Nat → Option Op := fun n => cond (Nat.beq n 2883) (some (oCall (runC 170) 90 2886 2 1 2 1 hdN)) (cond (Nat.beq n 2886) (some (oLoad 90 2888 6 0)) (none))
noncomputable def rw_90rrrlrlllr : Nat → Option Op := fun n => cond (Nat.beq n 2888) (some (oCmp2 90 2891 2893 .eq)) (cond (Nat.beq n 2893) (some (oLoad 90 2895 6 0)) (cond (Nat.beq n 2895) (some (oCmp1 90 2898 2910 .ne)) (none)))
noncomputable def rw_90rrrlrlll : Nat → Option Op := fun n => cond (Nat.blt n 2888) (rw_90rrrlrllll n) (rw_90rrrlrlllr n)
noncomputable def rw_90rrrlrllrl : Nat → Option Op := fun n => cond (Nat.beq n 2910) (some (oGoto 90 3276)) (cond (Nat.beq n 2913) (some (oLoad 90 2914 1 4)) (cond (Nat.beq n 2914) (some (oLoad 90 2915 0 4)) (none)))
noncomputable def rw_90rrrlrllrr : Nat → Option Op := fun n => cond (Nat.beq n 2915) (some (oLoad 90 2917 5 0)) (cond (Nat.beq n 2917) (some (oPush 90 2918 (.int (Int32.ofInt (1))))) (cond (Nat.beq n 2918) (some (oBin sdv 90 2919 0)) (none)))
noncomputable def rw_90rrrlrllr : Nat → Option Op := fun n => cond (Nat.blt n 2915) (rw_90rrrlrllrl n) (rw_90rrrlrllrr n)
noncomputable def rw_90rrrlrll : Nat → Option Op := fun n => cond (Nat.blt n 2910) (rw_90rrrlrlll n) (rw_90rrrlrllr n)
noncomputable def rw_90rrrlrlrll : Nat → Option Op := fun n => cond (Nat.beq n 2919) (some (oIald 90 2920)) (cond (Nat.beq n 2920) (some (oLoad 90 2921 3 4)) (cond (Nat.beq n 2921) (some (oCall (runC 88) 90 2924 1 3 0 4 hdN)) (none)))
noncomputable def rw_90rrrlrlrlr : Nat → Option Op := fun n => cond (Nat.beq n 2924) (some (oStore 90 2926 6 0)) (cond (Nat.beq n 2926) (some (oLoad 90 2927 2 4)) (cond (Nat.beq n 2927) (some (oLoad 90 2928 0 4)) (none)))
noncomputable def rw_90rrrlrlrl : Nat → Option Op := fun n => cond (Nat.blt n 2924) (rw_90rrrlrlrll n) (rw_90rrrlrlrlr n)
noncomputable def rw_90rrrlrlrrl : Nat → Option Op := fun n => cond (Nat.beq n 2928) (some (oLoad 90 2930 5 0)) (cond (Nat.beq n 2930) (some (oPush 90 2931 (.int (Int32.ofInt (1))))) (cond (Nat.beq n 2931) (some (oBin sdv 90 2932 0)) (none)))
noncomputable def rw_90rrrlrlrrr : Nat → Option Op := fun n => cond (Nat.beq n 2932) (some (oIald 90 2933)) (cond (Nat.beq n 2933) (some (oCall (runC 139) 90 2936 2 2 2 7 hdN)) (cond (Nat.beq n 2936) (some (oStore 90 2938 7 0)) (none)))
noncomputable def rw_90rrrlrlrr : Nat → Option Op := fun n => cond (Nat.blt n 2932) (rw_90rrrlrlrrl n) (rw_90rrrlrlrrr n)
noncomputable def rw_90rrrlrlr : Nat → Option Op := fun n => cond (Nat.blt n 2928) (rw_90rrrlrlrl n) (rw_90rrrlrlrr n)
noncomputable def rw_90rrrlrl : Nat → Option Op := fun n => cond (Nat.blt n 2919) (rw_90rrrlrll n) (rw_90rrrlrlr n)
noncomputable def rw_90rrrlrrlll : Nat → Option Op := fun n => cond (Nat.beq n 2938) (some (oLoad 90 2939 2 4)) (cond (Nat.beq n 2939) (some (oCall (runC 170) 90 2942 2 1 2 1 hdN)) (cond (Nat.beq n 2942) (some (oLoad 90 2944 6 0)) (none)))
noncomputable def rw_90rrrlrrllr : Nat → Option Op := fun n => cond (Nat.beq n 2944) (some (oCmp2 90 2947 2949 .eq)) (cond (Nat.beq n 2949) (some (oLoad 90 2951 6 0)) (cond (Nat.beq n 2951) (some (oCmp1 90 2954 2973 .ne)) (none)))
noncomputable def rw_90rrrlrrll : Nat → Option Op := fun n => cond (Nat.blt n 2944) (rw_90rrrlrrlll n) (rw_90rrrlrrllr n)
noncomputable def rw_90rrrlrrlrl : Nat → Option Op := fun n => cond (Nat.beq n 2973) (some (oGoto 90 3276)) (cond (Nat.beq n 2976) (some (oLoad 90 2977 1 4)) (cond (Nat.beq n 2977) (some (oLoad 90 2978 0 4)) (none)))
noncomputable def rw_90rrrlrrlrr : Nat → Option Op := fun n => cond (Nat.beq n 2978) (some (oLoad 90 2980 5 0)) (cond (Nat.beq n 2980) (some (oPush 90 2981 (.int (Int32.ofInt (1))))) (cond (Nat.beq n 2981) (some (oBin sdv 90 2982 0)) (none)))
noncomputable def rw_90rrrlrrlr : Nat → Option Op := fun n => cond (Nat.blt n 2978) (rw_90rrrlrrlrl n) (rw_90rrrlrrlrr n)
noncomputable def rw_90rrrlrrl : Nat → Option Op := fun n => cond (Nat.blt n 2973) (rw_90rrrlrrll n) (rw_90rrrlrrlr n)
noncomputable def rw_90rrrlrrrll : Nat → Option Op := fun n => cond (Nat.beq n 2982) (some (oIald 90 2983)) (cond (Nat.beq n 2983) (some (oLoad 90 2984 3 4)) (cond (Nat.beq n 2984) (some (oCall (runC 89) 90 2987 1 3 0 4 hdN)) (none)))
noncomputable def rw_90rrrlrrrlr : Nat → Option Op := fun n => cond (Nat.beq n 2987) (some (oStore 90 2989 6 0)) (cond (Nat.beq n 2989) (some (oLoad 90 2990 2 4)) (cond (Nat.beq n 2990) (some (oLoad 90 2991 0 4)) (none)))
noncomputable def rw_90rrrlrrrl : Nat → Option Op := fun n => cond (Nat.blt n 2987) (rw_90rrrlrrrll n) (rw_90rrrlrrrlr n)
noncomputable def rw_90rrrlrrrrl : Nat → Option Op := fun n => cond (Nat.beq n 2991) (some (oLoad 90 2993 5 0)) (cond (Nat.beq n 2993) (some (oPush 90 2994 (.int (Int32.ofInt (1))))) (cond (Nat.beq n 2994) (some (oBin sdv 90 2995 0)) (none)))
noncomputable def rw_90rrrlrrrrr : Nat → Option Op := fun n => cond (Nat.beq n 2995) (some (oIald 90 2996)) (cond (Nat.beq n 2996) (some (oCall (runC 140) 90 2999 2 2 2 6 hdN)) (cond (Nat.beq n 2999) (some (oStore 90 3001 7 0)) (none)))
noncomputable def rw_90rrrlrrrr : Nat → Option Op := fun n => cond (Nat.blt n 2995) (rw_90rrrlrrrrl n) (rw_90rrrlrrrrr n)
noncomputable def rw_90rrrlrrr : Nat → Option Op := fun n => cond (Nat.blt n 2991) (rw_90rrrlrrrl n) (rw_90rrrlrrrr n)
noncomputable def rw_90rrrlrr : Nat → Option Op := fun n => cond (Nat.blt n 2982) (rw_90rrrlrrl n) (rw_90rrrlrrr n)
noncomputable def rw_90rrrlr : Nat → Option Op := fun n => cond (Nat.blt n 2938) (rw_90rrrlrl n) (rw_90rrrlrr n)
noncomputable def rw_90rrrl : Nat → Option Op := fun n => cond (Nat.blt n 2883) (rw_90rrrll n) (rw_90rrrlr n)
noncomputable def rw_90rrrrlllll : Nat → Option Op := fun n => cond (Nat.beq n 3001) (some (oLoad 90 3002 2 4)) (cond (Nat.beq n 3002) (some (oCall (runC 170) 90 3005 2 1 2 1 hdN)) (none))
noncomputable def rw_90rrrrllllr : Nat → Option Op := fun n => cond (Nat.beq n 3005) (some (oLoad 90 3007 6 0)) (cond (Nat.beq n 3007) (some (oCmp2 90 3010 3012 .eq)) (cond (Nat.beq n 3012) (some (oLoad 90 3014 6 0)) (none)))
noncomputable def rw_90rrrrllll : Nat → Option Op := fun n => cond (Nat.blt n 3005) (rw_90rrrrlllll n) (rw_90rrrrllllr n)
noncomputable def rw_90rrrrlllrl : Nat → Option Op := fun n => cond (Nat.beq n 3014) (some (oCmp1 90 3017 3036 .ne)) (cond (Nat.beq n 3036) (some (oGoto 90 3276)) (cond (Nat.beq n 3039) (some (oLoad 90 3040 1 4)) (none)))
noncomputable def rw_90rrrrlllrr : Nat → Option Op := fun n => cond (Nat.beq n 3040) (some (oLoad 90 3041 0 4)) (cond (Nat.beq n 3041) (some (oLoad 90 3043 5 0)) (cond (Nat.beq n 3043) (some (oPush 90 3044 (.int (Int32.ofInt (1))))) (none)))
noncomputable def rw_90rrrrlllr : Nat → Option Op := fun n => cond (Nat.blt n 3040) (rw_90rrrrlllrl n) (rw_90rrrrlllrr n)
noncomputable def rw_90rrrrlll : Nat → Option Op := fun n => cond (Nat.blt n 3014) (rw_90rrrrllll n) (rw_90rrrrlllr n)
noncomputable def rw_90rrrrllrll : Nat → Option Op := fun n => cond (Nat.beq n 3044) (some (oBin sdv 90 3045 0)) (cond (Nat.beq n 3045) (some (oIald 90 3046)) (cond (Nat.beq n 3046) (some (oLoad 90 3047 0 4)) (none)))
noncomputable def rw_90rrrrllrlr : Nat → Option Op := fun n => cond (Nat.beq n 3047) (some (oLoad 90 3049 5 0)) (cond (Nat.beq n 3049) (some (oPush 90 3050 (.int (Int32.ofInt (2))))) (cond (Nat.beq n 3050) (some (oBin sdv 90 3051 0)) (none)))
noncomputable def rw_90rrrrllrl : Nat → Option Op := fun n => cond (Nat.blt n 3047) (rw_90rrrrllrll n) (rw_90rrrrllrlr n)
noncomputable def rw_90rrrrllrrl : Nat → Option Op := fun n => cond (Nat.beq n 3051) (some (oIald 90 3052)) (cond (Nat.beq n 3052) (some (oLoad 90 3053 0 4)) (cond (Nat.beq n 3053) (some (oLoad 90 3055 5 0)) (none)))
noncomputable def rw_90rrrrllrrr : Nat → Option Op := fun n => cond (Nat.beq n 3055) (some (oPush 90 3056 (.int (Int32.ofInt (3))))) (cond (Nat.beq n 3056) (some (oBin sdv 90 3057 0)) (cond (Nat.beq n 3057) (some (oIald 90 3058)) (none)))
noncomputable def rw_90rrrrllrr : Nat → Option Op := fun n => cond (Nat.blt n 3055) (rw_90rrrrllrrl n) (rw_90rrrrllrrr n)
noncomputable def rw_90rrrrllr : Nat → Option Op := fun n => cond (Nat.blt n 3051) (rw_90rrrrllrl n) (rw_90rrrrllrr n)
noncomputable def rw_90rrrrll : Nat → Option Op := fun n => cond (Nat.blt n 3044) (rw_90rrrrlll n) (rw_90rrrrllr n)
noncomputable def rw_90rrrrlrlll : Nat → Option Op := fun n => cond (Nat.beq n 3058) (some (oLoad 90 3059 3 4)) (cond (Nat.beq n 3059) (some (oCall (runC 105) 90 3062 1 5 0 6 hdN)) (none))
noncomputable def rw_90rrrrlrllr : Nat → Option Op := fun n => cond (Nat.beq n 3062) (some (oStore 90 3064 6 0)) (cond (Nat.beq n 3064) (some (oLoad 90 3065 2 4)) (cond (Nat.beq n 3065) (some (oLoad 90 3066 0 4)) (none)))
noncomputable def rw_90rrrrlrll : Nat → Option Op := fun n => cond (Nat.blt n 3062) (rw_90rrrrlrlll n) (rw_90rrrrlrllr n)
noncomputable def rw_90rrrrlrlrl : Nat → Option Op := fun n => cond (Nat.beq n 3066) (some (oLoad 90 3068 5 0)) (cond (Nat.beq n 3068) (some (oPush 90 3069 (.int (Int32.ofInt (1))))) (cond (Nat.beq n 3069) (some (oBin sdv 90 3070 0)) (none)))
noncomputable def rw_90rrrrlrlrr : Nat → Option Op := fun n => cond (Nat.beq n 3070) (some (oIald 90 3071)) (cond (Nat.beq n 3071) (some (oLoad 90 3072 0 4)) (cond (Nat.beq n 3072) (some (oLoad 90 3074 5 0)) (none)))
noncomputable def rw_90rrrrlrlr : Nat → Option Op := fun n => cond (Nat.blt n 3070) (rw_90rrrrlrlrl n) (rw_90rrrrlrlrr n)
noncomputable def rw_90rrrrlrl : Nat → Option Op := fun n => cond (Nat.blt n 3066) (rw_90rrrrlrll n) (rw_90rrrrlrlr n)
noncomputable def rw_90rrrrlrrll : Nat → Option Op := fun n => cond (Nat.beq n 3074) (some (oPush 90 3075 (.int (Int32.ofInt (2))))) (cond (Nat.beq n 3075) (some (oBin sdv 90 3076 0)) (cond (Nat.beq n 3076) (some (oIald 90 3077)) (none)))
noncomputable def rw_90rrrrlrrlr : Nat → Option Op := fun n => cond (Nat.beq n 3077) (some (oLoad 90 3078 0 4)) (cond (Nat.beq n 3078) (some (oLoad 90 3080 5 0)) (cond (Nat.beq n 3080) (some (oPush 90 3081 (.int (Int32.ofInt (3))))) (none)))
noncomputable def rw_90rrrrlrrl : Nat → Option Op := fun n => cond (Nat.blt n 3077) (rw_90rrrrlrrll n) (rw_90rrrrlrrlr n)
noncomputable def rw_90rrrrlrrrl : Nat → Option Op := fun n => cond (Nat.beq n 3081) (some (oBin sdv 90 3082 0)) (cond (Nat.beq n 3082) (some (oIald 90 3083)) (cond (Nat.beq n 3083) (some (oCall (runC 164) 90 3086 2 4 2 8 hdN)) (none)))
noncomputable def rw_90rrrrlrrrr : Nat → Option Op := fun n => cond (Nat.beq n 3086) (some (oStore 90 3088 7 0)) (cond (Nat.beq n 3088) (some (oLoad 90 3089 2 4)) (cond (Nat.beq n 3089) (some (oCall (runC 170) 90 3092 2 1 2 1 hdN)) (none)))
noncomputable def rw_90rrrrlrrr : Nat → Option Op := fun n => cond (Nat.blt n 3086) (rw_90rrrrlrrrl n) (rw_90rrrrlrrrr n)
noncomputable def rw_90rrrrlrr : Nat → Option Op := fun n => cond (Nat.blt n 3081) (rw_90rrrrlrrl n) (rw_90rrrrlrrr n)
noncomputable def rw_90rrrrlr : Nat → Option Op := fun n => cond (Nat.blt n 3074) (rw_90rrrrlrl n) (rw_90rrrrlrr n)
noncomputable def rw_90rrrrl : Nat → Option Op := fun n => cond (Nat.blt n 3058) (rw_90rrrrll n) (rw_90rrrrlr n)
noncomputable def rw_90rrrrrllll : Nat → Option Op := fun n => cond (Nat.beq n 3092) (some (oLoad 90 3094 6 0)) (cond (Nat.beq n 3094) (some (oCmp2 90 3097 3099 .eq)) (none))
noncomputable def rw_90rrrrrlllr : Nat → Option Op := fun n => cond (Nat.beq n 3099) (some (oLoad 90 3101 6 0)) (cond (Nat.beq n 3101) (some (oCmp1 90 3104 3116 .ne)) (cond (Nat.beq n 3116) (some (oGoto 90 3276)) (none)))
noncomputable def rw_90rrrrrlll : Nat → Option Op := fun n => cond (Nat.blt n 3099) (rw_90rrrrrllll n) (rw_90rrrrrlllr n)
noncomputable def rw_90rrrrrllrl : Nat → Option Op := fun n => cond (Nat.beq n 3119) (some (oLoad 90 3120 1 4)) (cond (Nat.beq n 3120) (some (oCall (runC 23) 90 3123 2 1 0 1 hdN)) (cond (Nat.beq n 3123) (some (oLoad 90 3124 2 4)) (none)))
noncomputable def rw_90rrrrrllrr : Nat → Option Op := fun n => cond (Nat.beq n 3124) (some (oCall (runC 146) 90 3127 2 1 2 1 hdN)) (cond (Nat.beq n 3127) (some (oCmp2 90 3130 3276 .eq)) (cond (Nat.beq n 3132) (some (oLoad 90 3133 1 4)) (none)))
noncomputable def rw_90rrrrrllr : Nat → Option Op := fun n => cond (Nat.blt n 3124) (rw_90rrrrrllrl n) (rw_90rrrrrllrr n)
noncomputable def rw_90rrrrrll : Nat → Option Op := fun n => cond (Nat.blt n 3119) (rw_90rrrrrlll n) (rw_90rrrrrllr n)
noncomputable def rw_90rrrrrlrll : Nat → Option Op := fun n => cond (Nat.beq n 3133) (some (oLoad 90 3135 4 4)) (cond (Nat.beq n 3135) (some (oCall (runC 94) 90 3138 1 2 0 3 hdN)) (cond (Nat.beq n 3138) (some (oStore 90 3140 6 0)) (none)))
noncomputable def rw_90rrrrrlrlr : Nat → Option Op := fun n => cond (Nat.beq n 3140) (some (oLoad 90 3141 2 4)) (cond (Nat.beq n 3141) (some (oCall (runC 151) 90 3144 2 1 2 1 hdN)) (cond (Nat.beq n 3144) (some (oStore 90 3146 7 2)) (none)))
noncomputable def rw_90rrrrrlrl : Nat → Option Op := fun n => cond (Nat.blt n 3140) (rw_90rrrrrlrll n) (rw_90rrrrrlrlr n)
noncomputable def rw_90rrrrrlrrl : Nat → Option Op := fun n => cond (Nat.beq n 3146) (some (oLoad 90 3147 2 4)) (cond (Nat.beq n 3147) (some (oCall (runC 170) 90 3150 2 1 2 1 hdN)) (cond (Nat.beq n 3150) (some (oLoad 90 3152 6 0)) (none)))
noncomputable def rw_90rrrrrlrrr : Nat → Option Op := fun n => cond (Nat.beq n 3152) (some (oCmp2 90 3155 3157 .eq)) (cond (Nat.beq n 3157) (some (oLoad 90 3159 6 0)) (cond (Nat.beq n 3159) (some (oCmp1 90 3162 3195 .ne)) (none)))
noncomputable def rw_90rrrrrlrr : Nat → Option Op := fun n => cond (Nat.blt n 3152) (rw_90rrrrrlrrl n) (rw_90rrrrrlrrr n)
noncomputable def rw_90rrrrrlr : Nat → Option Op := fun n => cond (Nat.blt n 3146) (rw_90rrrrrlrl n) (rw_90rrrrrlrr n)
noncomputable def rw_90rrrrrl : Nat → Option Op := fun n => cond (Nat.blt n 3133) (rw_90rrrrrll n) (rw_90rrrrrlr n)
noncomputable def rw_90rrrrrrlll : Nat → Option Op := fun n => cond (Nat.beq n 3195) (some (oGoto 90 3276)) (cond (Nat.beq n 3198) (some (oLoad 90 3199 1 4)) (cond (Nat.beq n 3199) (some (oLoad 90 3201 4 4)) (none)))
noncomputable def rw_90rrrrrrllr : Nat → Option Op := fun n => cond (Nat.beq n 3201) (some (oCall (runC 92) 90 3204 1 2 0 3 hdN)) (cond (Nat.beq n 3204) (some (oStore 90 3206 6 0)) (cond (Nat.beq n 3206) (some (oLoad 90 3207 2 4)) (none)))
noncomputable def rw_90rrrrrrll : Nat → Option Op := fun n => cond (Nat.blt n 3201) (rw_90rrrrrrlll n) (rw_90rrrrrrllr n)
noncomputable def rw_90rrrrrrlrl : Nat → Option Op := fun n => cond (Nat.beq n 3207) (some (oCall (runC 148) 90 3210 2 1 2 5 hdN)) (cond (Nat.beq n 3210) (some (oStore 90 3212 7 3)) (cond (Nat.beq n 3212) (some (oLoad 90 3213 2 4)) (none)))
noncomputable def rw_90rrrrrrlrr : Nat → Option Op := fun n => cond (Nat.beq n 3213) (some (oCall (runC 170) 90 3216 2 1 2 1 hdN)) (cond (Nat.beq n 3216) (some (oLoad 90 3218 6 0)) (cond (Nat.beq n 3218) (some (oCmp2 90 3221 3223 .eq)) (none)))
noncomputable def rw_90rrrrrrlr : Nat → Option Op := fun n => cond (Nat.blt n 3213) (rw_90rrrrrrlrl n) (rw_90rrrrrrlrr n)
noncomputable def rw_90rrrrrrl : Nat → Option Op := fun n => cond (Nat.blt n 3207) (rw_90rrrrrrll n) (rw_90rrrrrrlr n)
noncomputable def rw_90rrrrrrrll : Nat → Option Op := fun n => cond (Nat.beq n 3223) (some (oLoad 90 3225 6 0)) (cond (Nat.beq n 3225) (some (oCmp1 90 3228 3260 .ne)) (cond (Nat.beq n 3260) (some (oGoto 90 3276)) (none)))
noncomputable def rw_90rrrrrrrlr : Nat → Option Op := fun n => cond (Nat.beq n 3263) (some (oLoad 90 3264 1 4)) (cond (Nat.beq n 3264) (some (oCall (runC 22) 90 3267 2 1 0 1 hdN)) (cond (Nat.beq n 3267) (some (oLoad 90 3268 2 4)) (none)))
noncomputable def rw_90rrrrrrrl : Nat → Option Op := fun n => cond (Nat.blt n 3263) (rw_90rrrrrrrll n) (rw_90rrrrrrrlr n)
noncomputable def rw_90rrrrrrrrl : Nat → Option Op := fun n => cond (Nat.beq n 3268) (some (oCall (runC 144) 90 3271 2 1 2 1 hdN)) (cond (Nat.beq n 3271) (some (oCmp2 90 3274 3276 .eq)) (cond (Nat.beq n 3276) (some (oIinc 90 3279 5 (6))) (none)))
noncomputable def rw_90rrrrrrrrr : Nat → Option Op := fun n => cond (Nat.beq n 3279) (some (oGoto 90 28)) (cond (Nat.beq n 3282) (some (oPush 90 3283 (.int (Int32.ofInt (1))))) (cond (Nat.beq n 3283) (some (oRet .boolean 0)) (none)))
noncomputable def rw_90rrrrrrrr : Nat → Option Op := fun n => cond (Nat.blt n 3279) (rw_90rrrrrrrrl n) (rw_90rrrrrrrrr n)
noncomputable def rw_90rrrrrrr : Nat → Option Op := fun n => cond (Nat.blt n 3268) (rw_90rrrrrrrl n) (rw_90rrrrrrrr n)
noncomputable def rw_90rrrrrr : Nat → Option Op := fun n => cond (Nat.blt n 3223) (rw_90rrrrrrl n) (rw_90rrrrrrr n)
noncomputable def rw_90rrrrr : Nat → Option Op := fun n => cond (Nat.blt n 3195) (rw_90rrrrrl n) (rw_90rrrrrr n)
noncomputable def rw_90rrrr : Nat → Option Op := fun n => cond (Nat.blt n 3092) (rw_90rrrrl n) (rw_90rrrrr n)
noncomputable def rw_90rrr : Nat → Option Op := fun n => cond (Nat.blt n 3001) (rw_90rrrl n) (rw_90rrrr n)
noncomputable def rw_90rr : Nat → Option Op := fun n => cond (Nat.blt n 2769) (rw_90rrl n) (rw_90rrr n)
noncomputable def rw_90r : Nat → Option Op := fun n => cond (Nat.blt n 2384) (rw_90rl n) (rw_90rr n)
noncomputable def rw_90 : Nat → Option Op := fun n => cond (Nat.blt n 1701) (rw_90l n) (rw_90r n)
noncomputable def rw_91l : Nat → Option Op := fun n => cond (Nat.beq n 0) (some (oLoad 91 1 2 4)) (cond (Nat.beq n 1) (some (oPush 91 2 (.int (Int32.ofInt (0))))) (cond (Nat.beq n 2) (some (oLoad 91 3 0 4)) (cond (Nat.beq n 3) (some (oLoad 91 4 1 0)) (none))))
noncomputable def rw_91r : Nat → Option Op := fun n => cond (Nat.beq n 4) (some (oCall (runC 24) 91 7 2 2 0 2 (hdT (some 15) (some 12) none none))) (cond (Nat.beq n 12) (some (oStore 91 13 3 4)) (cond (Nat.beq n 13) (some (oPush 91 14 (.int (Int32.ofInt (1))))) (cond (Nat.beq n 14) (some (oRet .int 0)) (none))))
noncomputable def rw_91 : Nat → Option Op := fun n => cond (Nat.blt n 4) (rw_91l n) (rw_91r n)
noncomputable def rw_92l : Nat → Option Op := fun n => cond (Nat.beq n 0) (some (oLoad 92 1 1 4)) (cond (Nat.beq n 1) (some (oPush 92 2 (.int (Int32.ofInt (0))))) (cond (Nat.beq n 2) (some (oLoad 92 3 0 4)) (none)))
noncomputable def rw_92r : Nat → Option Op := fun n => cond (Nat.beq n 3) (some (oCall (runC 25) 92 6 2 1 0 2 (hdT (some 10) none none (some 13)))) (cond (Nat.beq n 10) (some (oStore 92 11 2 4)) (cond (Nat.beq n 11) (some (oPush 92 12 (.int (Int32.ofInt (1))))) (cond (Nat.beq n 12) (some (oRet .int 0)) (none))))
noncomputable def rw_92 : Nat → Option Op := fun n => cond (Nat.blt n 3) (rw_92l n) (rw_92r n)
noncomputable def rw_93l : Nat → Option Op := fun n => cond (Nat.beq n 0) (some (oLoad 93 1 2 4)) (cond (Nat.beq n 1) (some (oPush 93 2 (.int (Int32.ofInt (0))))) (cond (Nat.beq n 2) (some (oLoad 93 3 0 4)) (cond (Nat.beq n 3) (some (oLoad 93 4 1 0)) (none))))
noncomputable def rw_93r : Nat → Option Op := fun n => cond (Nat.beq n 4) (some (oCall (runC 27) 93 7 2 2 0 2 (hdT none (some 12) none none))) (cond (Nat.beq n 12) (some (oStore 93 13 3 4)) (cond (Nat.beq n 13) (some (oPush 93 14 (.int (Int32.ofInt (1))))) (cond (Nat.beq n 14) (some (oRet .int 0)) (none))))
noncomputable def rw_93 : Nat → Option Op := fun n => cond (Nat.blt n 4) (rw_93l n) (rw_93r n)
noncomputable def rw_94l : Nat → Option Op := fun n => cond (Nat.beq n 0) (some (oLoad 94 1 1 4)) (cond (Nat.beq n 1) (some (oPush 94 2 (.int (Int32.ofInt (0))))) (cond (Nat.beq n 2) (some (oLoad 94 3 0 4)) (none)))
noncomputable def rw_94r : Nat → Option Op := fun n => cond (Nat.beq n 3) (some (oCall (runC 28) 94 6 2 1 0 2 (hdT none none none (some 11)))) (cond (Nat.beq n 11) (some (oStore 94 12 2 4)) (cond (Nat.beq n 12) (some (oPush 94 13 (.int (Int32.ofInt (1))))) (cond (Nat.beq n 13) (some (oRet .int 0)) (none))))
noncomputable def rw_94 : Nat → Option Op := fun n => cond (Nat.blt n 3) (rw_94l n) (rw_94r n)
noncomputable def rw_95ll : Nat → Option Op := fun n => cond (Nat.beq n 0) (some (oLoad 95 1 3 4)) (cond (Nat.beq n 1) (some (oPush 95 2 (.int (Int32.ofInt (0))))) (cond (Nat.beq n 2) (some (oLoad 95 3 0 4)) (none)))
noncomputable def rw_95lr : Nat → Option Op := fun n => cond (Nat.beq n 3) (some (oLoad 95 4 1 0)) (cond (Nat.beq n 4) (some (oLoad 95 5 2 0)) (cond (Nat.beq n 5) (some (oCall (runC 35) 95 8 2 3 0 3 (hdT none none (some 13) none))) (cond (Nat.beq n 8) (some (oI2l 95 9)) (none))))
noncomputable def rw_95l : Nat → Option Op := fun n => cond (Nat.blt n 3) (rw_95ll n) (rw_95lr n)
noncomputable def rw_95rl : Nat → Option Op := fun n => cond (Nat.beq n 9) (some (oLast 95 10)) (cond (Nat.beq n 10) (some (oGoto 95 17)) (cond (Nat.beq n 13) (some (oStore 95 15 4 4)) (none)))
noncomputable def rw_95rr : Nat → Option Op := fun n => cond (Nat.beq n 15) (some (oPush 95 16 (.int (Int32.ofInt (1))))) (cond (Nat.beq n 16) (some (oRet .int 0)) (cond (Nat.beq n 17) (some (oPush 95 18 (.int (Int32.ofInt (0))))) (cond (Nat.beq n 18) (some (oRet .int 0)) (none))))
noncomputable def rw_95r : Nat → Option Op := fun n => cond (Nat.blt n 15) (rw_95rl n) (rw_95rr n)
noncomputable def rw_95 : Nat → Option Op := fun n => cond (Nat.blt n 9) (rw_95l n) (rw_95r n)
noncomputable def rw_96l : Nat → Option Op := fun n => cond (Nat.beq n 0) (some (oLoad 96 1 3 4)) (cond (Nat.beq n 1) (some (oPush 96 2 (.int (Int32.ofInt (0))))) (cond (Nat.beq n 2) (some (oLoad 96 3 0 4)) (cond (Nat.beq n 3) (some (oLoad 96 4 1 0)) (none))))
noncomputable def rw_96rl : Nat → Option Op := fun n => cond (Nat.beq n 4) (some (oLoad 96 5 2 0)) (cond (Nat.beq n 5) (some (oCall (runC 37) 96 8 2 3 0 4 (hdT (some 13) none (some 17) none))) (none))
noncomputable def rw_96rr : Nat → Option Op := fun n => cond (Nat.beq n 13) (some (oStore 96 15 4 4)) (cond (Nat.beq n 15) (some (oPush 96 16 (.int (Int32.ofInt (1))))) (cond (Nat.beq n 16) (some (oRet .int 0)) (none)))
noncomputable def rw_96r : Nat → Option Op := fun n => cond (Nat.blt n 13) (rw_96rl n) (rw_96rr n)
noncomputable def rw_96 : Nat → Option Op := fun n => cond (Nat.blt n 4) (rw_96l n) (rw_96r n)
noncomputable def rw_97ll : Nat → Option Op := fun n => cond (Nat.beq n 0) (some (oLoad 97 1 3 4)) (cond (Nat.beq n 1) (some (oPush 97 2 (.int (Int32.ofInt (0))))) (cond (Nat.beq n 2) (some (oLoad 97 3 0 4)) (none)))
noncomputable def rw_97lr : Nat → Option Op := fun n => cond (Nat.beq n 3) (some (oLoad 97 4 1 0)) (cond (Nat.beq n 4) (some (oLoad 97 5 2 0)) (cond (Nat.beq n 5) (some (oCall (runC 38) 97 8 2 3 0 3 (hdT (some 21) (some 17) (some 13) none))) (none)))
noncomputable def rw_97l : Nat → Option Op := fun n => cond (Nat.blt n 3) (rw_97ll n) (rw_97lr n)
noncomputable def rw_97rl : Nat → Option Op := fun n => cond (Nat.beq n 13) (some (oStore 97 15 4 4)) (cond (Nat.beq n 15) (some (oPush 97 16 (.int (Int32.ofInt (1))))) (cond (Nat.beq n 16) (some (oRet .int 0)) (none)))
noncomputable def rw_97rr : Nat → Option Op := fun n => cond (Nat.beq n 17) (some (oStore 97 19 4 4)) (cond (Nat.beq n 19) (some (oPush 97 20 (.int (Int32.ofInt (2))))) (cond (Nat.beq n 20) (some (oRet .int 0)) (none)))
noncomputable def rw_97r : Nat → Option Op := fun n => cond (Nat.blt n 17) (rw_97rl n) (rw_97rr n)
noncomputable def rw_97 : Nat → Option Op := fun n => cond (Nat.blt n 13) (rw_97l n) (rw_97r n)
noncomputable def rw_98ll : Nat → Option Op := fun n => cond (Nat.beq n 0) (some (oLoad 98 2 6 4)) (cond (Nat.beq n 2) (some (oPush 98 3 (.int (Int32.ofInt (0))))) (cond (Nat.beq n 3) (some (oLoad 98 4 0 4)) (none)))
noncomputable def rw_98lr : Nat → Option Op := fun n => cond (Nat.beq n 4) (some (oLoad 98 5 1 0)) (cond (Nat.beq n 5) (some (oLoad 98 6 2 0)) (cond (Nat.beq n 6) (some (oLoad 98 7 3 0)) (none)))
noncomputable def rw_98l : Nat → Option Op := fun n => cond (Nat.blt n 4) (rw_98ll n) (rw_98lr n)
noncomputable def rw_98rl : Nat → Option Op := fun n => cond (Nat.beq n 7) (some (oLoad 98 9 4 0)) (cond (Nat.beq n 9) (some (oLoad 98 11 5 0)) (cond (Nat.beq n 11) (some (oCall (runC 39) 98 14 2 6 0 9 (hdT (some 27) (some 19) (some 23) none))) (none)))
noncomputable def rw_98rr : Nat → Option Op := fun n => cond (Nat.beq n 19) (some (oStore 98 21 7 4)) (cond (Nat.beq n 21) (some (oPush 98 22 (.int (Int32.ofInt (1))))) (cond (Nat.beq n 22) (some (oRet .int 0)) (none)))
noncomputable def rw_98r : Nat → Option Op := fun n => cond (Nat.blt n 19) (rw_98rl n) (rw_98rr n)
noncomputable def rw_98 : Nat → Option Op := fun n => cond (Nat.blt n 7) (rw_98l n) (rw_98r n)
noncomputable def rw_99ll : Nat → Option Op := fun n => cond (Nat.beq n 0) (some (oLoad 99 1 2 4)) (cond (Nat.beq n 1) (some (oPush 99 2 (.int (Int32.ofInt (0))))) (none))
noncomputable def rw_99lr : Nat → Option Op := fun n => cond (Nat.beq n 2) (some (oLoad 99 3 0 4)) (cond (Nat.beq n 3) (some (oLoad 99 4 1 0)) (cond (Nat.beq n 4) (some (oCall (runC 40) 99 7 2 2 0 3 (hdT (some 15) none (some 12) none))) (none)))
noncomputable def rw_99l : Nat → Option Op := fun n => cond (Nat.blt n 2) (rw_99ll n) (rw_99lr n)
noncomputable def rw_99rl : Nat → Option Op := fun n => cond (Nat.beq n 12) (some (oStore 99 13 3 4)) (cond (Nat.beq n 13) (some (oPush 99 14 (.int (Int32.ofInt (1))))) (cond (Nat.beq n 14) (some (oRet .int 0)) (none)))
noncomputable def rw_99rr : Nat → Option Op := fun n => cond (Nat.beq n 15) (some (oStore 99 16 3 4)) (cond (Nat.beq n 16) (some (oPush 99 17 (.int (Int32.ofInt (2))))) (cond (Nat.beq n 17) (some (oRet .int 0)) (none)))
noncomputable def rw_99r : Nat → Option Op := fun n => cond (Nat.blt n 15) (rw_99rl n) (rw_99rr n)
noncomputable def rw_99 : Nat → Option Op := fun n => cond (Nat.blt n 12) (rw_99l n) (rw_99r n)
noncomputable def rw_100l : Nat → Option Op := fun n => cond (Nat.beq n 0) (some (oLoad 100 1 3 4)) (cond (Nat.beq n 1) (some (oPush 100 2 (.int (Int32.ofInt (0))))) (cond (Nat.beq n 2) (some (oLoad 100 3 0 4)) (cond (Nat.beq n 3) (some (oLoad 100 4 1 0)) (none))))
noncomputable def rw_100rl : Nat → Option Op := fun n => cond (Nat.beq n 4) (some (oLoad 100 5 2 0)) (cond (Nat.beq n 5) (some (oCall (runC 42) 100 8 2 3 0 4 (hdT (some 13) none none none))) (none))
noncomputable def rw_100rr : Nat → Option Op := fun n => cond (Nat.beq n 13) (some (oStore 100 15 4 4)) (cond (Nat.beq n 15) (some (oPush 100 16 (.int (Int32.ofInt (1))))) (cond (Nat.beq n 16) (some (oRet .int 0)) (none)))
noncomputable def rw_100r : Nat → Option Op := fun n => cond (Nat.blt n 13) (rw_100rl n) (rw_100rr n)
noncomputable def rw_100 : Nat → Option Op := fun n => cond (Nat.blt n 4) (rw_100l n) (rw_100r n)
noncomputable def rw_101l : Nat → Option Op := fun n => cond (Nat.beq n 0) (some (oLoad 101 1 2 4)) (cond (Nat.beq n 1) (some (oPush 101 2 (.int (Int32.ofInt (0))))) (cond (Nat.beq n 2) (some (oLoad 101 3 0 4)) (cond (Nat.beq n 3) (some (oLoad 101 4 1 0)) (none))))
noncomputable def rw_101r : Nat → Option Op := fun n => cond (Nat.beq n 4) (some (oCall (runC 43) 101 7 2 2 0 3 (hdT (some 12) none (some 15) none))) (cond (Nat.beq n 12) (some (oStore 101 13 3 4)) (cond (Nat.beq n 13) (some (oPush 101 14 (.int (Int32.ofInt (1))))) (cond (Nat.beq n 14) (some (oRet .int 0)) (none))))
noncomputable def rw_101 : Nat → Option Op := fun n => cond (Nat.blt n 4) (rw_101l n) (rw_101r n)
noncomputable def rw_102ll : Nat → Option Op := fun n => cond (Nat.beq n 0) (some (oLoad 102 2 4 4)) (cond (Nat.beq n 2) (some (oPush 102 3 (.int (Int32.ofInt (0))))) (none))
noncomputable def rw_102lr : Nat → Option Op := fun n => cond (Nat.beq n 3) (some (oLoad 102 4 0 4)) (cond (Nat.beq n 4) (some (oLoad 102 5 1 0)) (cond (Nat.beq n 5) (some (oLoad 102 6 2 0)) (none)))
noncomputable def rw_102l : Nat → Option Op := fun n => cond (Nat.blt n 3) (rw_102ll n) (rw_102lr n)
noncomputable def rw_102rl : Nat → Option Op := fun n => cond (Nat.beq n 6) (some (oLoad 102 7 3 0)) (cond (Nat.beq n 7) (some (oCall (runC 45) 102 10 2 4 0 5 (hdT (some 19) (some 15) none none))) (none))
noncomputable def rw_102rr : Nat → Option Op := fun n => cond (Nat.beq n 15) (some (oStore 102 17 5 4)) (cond (Nat.beq n 17) (some (oPush 102 18 (.int (Int32.ofInt (1))))) (cond (Nat.beq n 18) (some (oRet .int 0)) (none)))
noncomputable def rw_102r : Nat → Option Op := fun n => cond (Nat.blt n 15) (rw_102rl n) (rw_102rr n)
noncomputable def rw_102 : Nat → Option Op := fun n => cond (Nat.blt n 6) (rw_102l n) (rw_102r n)
noncomputable def rw_103ll : Nat → Option Op := fun n => cond (Nat.beq n 0) (some (oLoad 103 2 5 4)) (cond (Nat.beq n 2) (some (oPush 103 3 (.int (Int32.ofInt (0))))) (none))
noncomputable def rw_103lr : Nat → Option Op := fun n => cond (Nat.beq n 3) (some (oLoad 103 4 0 4)) (cond (Nat.beq n 4) (some (oLoad 103 5 1 0)) (cond (Nat.beq n 5) (some (oLoad 103 6 2 0)) (none)))
noncomputable def rw_103l : Nat → Option Op := fun n => cond (Nat.blt n 3) (rw_103ll n) (rw_103lr n)
noncomputable def rw_103rl : Nat → Option Op := fun n => cond (Nat.beq n 6) (some (oLoad 103 7 3 0)) (cond (Nat.beq n 7) (some (oLoad 103 9 4 0)) (cond (Nat.beq n 9) (some (oCall (runC 46) 103 12 2 5 0 6 (hdT (some 25) (some 17) (some 21) none))) (none)))
noncomputable def rw_103rr : Nat → Option Op := fun n => cond (Nat.beq n 17) (some (oStore 103 19 6 4)) (cond (Nat.beq n 19) (some (oPush 103 20 (.int (Int32.ofInt (1))))) (cond (Nat.beq n 20) (some (oRet .int 0)) (none)))
noncomputable def rw_103r : Nat → Option Op := fun n => cond (Nat.blt n 17) (rw_103rl n) (rw_103rr n)
noncomputable def rw_103 : Nat → Option Op := fun n => cond (Nat.blt n 6) (rw_103l n) (rw_103r n)
noncomputable def rw_104l : Nat → Option Op := fun n => cond (Nat.beq n 0) (some (oLoad 104 1 1 4)) (cond (Nat.beq n 1) (some (oPush 104 2 (.int (Int32.ofInt (0))))) (cond (Nat.beq n 2) (some (oLoad 104 3 0 4)) (none)))
noncomputable def rw_104r : Nat → Option Op := fun n => cond (Nat.beq n 3) (some (oCall (runC 48) 104 6 2 1 0 2 (hdT (some 11) none none none))) (cond (Nat.beq n 11) (some (oStore 104 12 2 4)) (cond (Nat.beq n 12) (some (oPush 104 13 (.int (Int32.ofInt (1))))) (cond (Nat.beq n 13) (some (oRet .int 0)) (none))))
noncomputable def rw_104 : Nat → Option Op := fun n => cond (Nat.blt n 3) (rw_104l n) (rw_104r n)
noncomputable def rw_105ll : Nat → Option Op := fun n => cond (Nat.beq n 0) (some (oLoad 105 2 4 4)) (cond (Nat.beq n 2) (some (oPush 105 3 (.int (Int32.ofInt (0))))) (cond (Nat.beq n 3) (some (oLoad 105 4 0 4)) (none)))
noncomputable def rw_105lr : Nat → Option Op := fun n => cond (Nat.beq n 4) (some (oLoad 105 5 1 0)) (cond (Nat.beq n 5) (some (oLoad 105 6 2 0)) (cond (Nat.beq n 6) (some (oLoad 105 7 3 0)) (none)))
noncomputable def rw_105l : Nat → Option Op := fun n => cond (Nat.blt n 4) (rw_105ll n) (rw_105lr n)
noncomputable def rw_105rl : Nat → Option Op := fun n => cond (Nat.beq n 7) (some (oCall (runC 49) 105 10 2 4 0 4 (hdT (some 19) none (some 15) none))) (cond (Nat.beq n 15) (some (oStore 105 17 5 4)) (cond (Nat.beq n 17) (some (oPush 105 18 (.int (Int32.ofInt (1))))) (none)))
noncomputable def rw_105rr : Nat → Option Op := fun n => cond (Nat.beq n 18) (some (oRet .int 0)) (cond (Nat.beq n 19) (some (oStore 105 21 5 4)) (cond (Nat.beq n 21) (some (oPush 105 22 (.int (Int32.ofInt (2))))) (cond (Nat.beq n 22) (some (oRet .int 0)) (none))))
noncomputable def rw_105r : Nat → Option Op := fun n => cond (Nat.blt n 18) (rw_105rl n) (rw_105rr n)
noncomputable def rw_105 : Nat → Option Op := fun n => cond (Nat.blt n 7) (rw_105l n) (rw_105r n)
noncomputable def rw_106l : Nat → Option Op := fun n => cond (Nat.beq n 0) (some (oLoad 106 1 2 4)) (cond (Nat.beq n 1) (some (oPush 106 2 (.int (Int32.ofInt (0))))) (cond (Nat.beq n 2) (some (oLoad 106 3 0 4)) (cond (Nat.beq n 3) (some (oLoad 106 4 1 0)) (none))))
noncomputable def rw_106r : Nat → Option Op := fun n => cond (Nat.beq n 4) (some (oCall (runC 50) 106 7 2 2 0 2 (hdT (some 15) (some 12) none none))) (cond (Nat.beq n 12) (some (oStore 106 13 3 4)) (cond (Nat.beq n 13) (some (oPush 106 14 (.int (Int32.ofInt (1))))) (cond (Nat.beq n 14) (some (oRet .int 0)) (none))))
noncomputable def rw_106 : Nat → Option Op := fun n => cond (Nat.blt n 4) (rw_106l n) (rw_106r n)
noncomputable def rw_107l : Nat → Option Op := fun n => cond (Nat.beq n 0) (some (oLoad 107 1 1 4)) (cond (Nat.beq n 1) (some (oPush 107 2 (.int (Int32.ofInt (0))))) (cond (Nat.beq n 2) (some (oLoad 107 3 0 4)) (none)))
noncomputable def rw_107r : Nat → Option Op := fun n => cond (Nat.beq n 3) (some (oCall (runC 51) 107 6 2 1 0 1 (hdT (some 11) none none none))) (cond (Nat.beq n 11) (some (oStore 107 12 2 4)) (cond (Nat.beq n 12) (some (oPush 107 13 (.int (Int32.ofInt (1))))) (cond (Nat.beq n 13) (some (oRet .int 0)) (none))))
noncomputable def rw_107 : Nat → Option Op := fun n => cond (Nat.blt n 3) (rw_107l n) (rw_107r n)
noncomputable def rw_108l : Nat → Option Op := fun n => cond (Nat.beq n 0) (some (oLoad 108 1 2 4)) (cond (Nat.beq n 1) (some (oPush 108 2 (.int (Int32.ofInt (0))))) (cond (Nat.beq n 2) (some (oLoad 108 3 0 4)) (cond (Nat.beq n 3) (some (oLoad 108 4 1 0)) (none))))
noncomputable def rw_108r : Nat → Option Op := fun n => cond (Nat.beq n 4) (some (oCall (runC 52) 108 7 2 2 0 2 (hdT (some 14) (some 11) none none))) (cond (Nat.beq n 11) (some (oStore 108 12 3 4)) (cond (Nat.beq n 12) (some (oPush 108 13 (.int (Int32.ofInt (1))))) (cond (Nat.beq n 13) (some (oRet .int 0)) (none))))
noncomputable def rw_108 : Nat → Option Op := fun n => cond (Nat.blt n 4) (rw_108l n) (rw_108r n)
noncomputable def rw_109ll : Nat → Option Op := fun n => cond (Nat.beq n 0) (some (oLoad 109 1 2 4)) (cond (Nat.beq n 1) (some (oPush 109 2 (.int (Int32.ofInt (0))))) (none))
noncomputable def rw_109lr : Nat → Option Op := fun n => cond (Nat.beq n 2) (some (oLoad 109 3 0 4)) (cond (Nat.beq n 3) (some (oLoad 109 4 1 0)) (cond (Nat.beq n 4) (some (oCall (runC 53) 109 7 2 2 0 3 (hdT (some 15) none (some 12) none))) (none)))
noncomputable def rw_109l : Nat → Option Op := fun n => cond (Nat.blt n 2) (rw_109ll n) (rw_109lr n)
noncomputable def rw_109rl : Nat → Option Op := fun n => cond (Nat.beq n 12) (some (oStore 109 13 3 4)) (cond (Nat.beq n 13) (some (oPush 109 14 (.int (Int32.ofInt (1))))) (cond (Nat.beq n 14) (some (oRet .int 0)) (none)))
noncomputable def rw_109rr : Nat → Option Op := fun n => cond (Nat.beq n 15) (some (oStore 109 16 3 4)) (cond (Nat.beq n 16) (some (oPush 109 17 (.int (Int32.ofInt (2))))) (cond (Nat.beq n 17) (some (oRet .int 0)) (none)))
noncomputable def rw_109r : Nat → Option Op := fun n => cond (Nat.blt n 15) (rw_109rl n) (rw_109rr n)
noncomputable def rw_109 : Nat → Option Op := fun n => cond (Nat.blt n 12) (rw_109l n) (rw_109r n)
noncomputable def rw_110ll : Nat → Option Op := fun n => cond (Nat.beq n 0) (some (oLoad 110 2 4 4)) (cond (Nat.beq n 2) (some (oPush 110 3 (.int (Int32.ofInt (0))))) (none))
noncomputable def rw_110lr : Nat → Option Op := fun n => cond (Nat.beq n 3) (some (oLoad 110 4 0 4)) (cond (Nat.beq n 4) (some (oLoad 110 5 1 0)) (cond (Nat.beq n 5) (some (oLoad 110 6 2 0)) (none)))
noncomputable def rw_110l : Nat → Option Op := fun n => cond (Nat.blt n 3) (rw_110ll n) (rw_110lr n)
noncomputable def rw_110rl : Nat → Option Op := fun n => cond (Nat.beq n 6) (some (oLoad 110 7 3 0)) (cond (Nat.beq n 7) (some (oCall (runC 54) 110 10 2 4 0 6 (hdT (some 23) (some 15) (some 19) none))) (none))
noncomputable def rw_110rr : Nat → Option Op := fun n => cond (Nat.beq n 15) (some (oStore 110 17 5 4)) (cond (Nat.beq n 17) (some (oPush 110 18 (.int (Int32.ofInt (1))))) (cond (Nat.beq n 18) (some (oRet .int 0)) (none)))
noncomputable def rw_110r : Nat → Option Op := fun n => cond (Nat.blt n 15) (rw_110rl n) (rw_110rr n)
noncomputable def rw_110 : Nat → Option Op := fun n => cond (Nat.blt n 6) (rw_110l n) (rw_110r n)
noncomputable def rw_111l : Nat → Option Op := fun n => cond (Nat.beq n 0) (some (oLoad 111 1 2 4)) (cond (Nat.beq n 1) (some (oPush 111 2 (.int (Int32.ofInt (0))))) (cond (Nat.beq n 2) (some (oLoad 111 3 0 4)) (cond (Nat.beq n 3) (some (oLoad 111 4 1 0)) (none))))
noncomputable def rw_111r : Nat → Option Op := fun n => cond (Nat.beq n 4) (some (oCall (runC 55) 111 7 2 2 0 3 (hdT (some 12) none none none))) (cond (Nat.beq n 12) (some (oStore 111 13 3 4)) (cond (Nat.beq n 13) (some (oPush 111 14 (.int (Int32.ofInt (1))))) (cond (Nat.beq n 14) (some (oRet .int 0)) (none))))
noncomputable def rw_111 : Nat → Option Op := fun n => cond (Nat.blt n 4) (rw_111l n) (rw_111r n)
noncomputable def rw_112l : Nat → Option Op := fun n => cond (Nat.beq n 0) (some (oLoad 112 1 3 4)) (cond (Nat.beq n 1) (some (oPush 112 2 (.int (Int32.ofInt (0))))) (cond (Nat.beq n 2) (some (oLoad 112 3 0 4)) (cond (Nat.beq n 3) (some (oLoad 112 4 1 0)) (none))))
noncomputable def rw_112rl : Nat → Option Op := fun n => cond (Nat.beq n 4) (some (oLoad 112 5 2 0)) (cond (Nat.beq n 5) (some (oCall (runC 56) 112 8 2 3 0 3 (hdT (some 21) (some 13) (some 17) none))) (none))
noncomputable def rw_112rr : Nat → Option Op := fun n => cond (Nat.beq n 13) (some (oStore 112 15 4 4)) (cond (Nat.beq n 15) (some (oPush 112 16 (.int (Int32.ofInt (1))))) (cond (Nat.beq n 16) (some (oRet .int 0)) (none)))
noncomputable def rw_112r : Nat → Option Op := fun n => cond (Nat.blt n 13) (rw_112rl n) (rw_112rr n)
noncomputable def rw_112 : Nat → Option Op := fun n => cond (Nat.blt n 4) (rw_112l n) (rw_112r n)
noncomputable def rw_113ll : Nat → Option Op := fun n => cond (Nat.beq n 0) (some (oLoad 113 2 4 4)) (cond (Nat.beq n 2) (some (oPush 113 3 (.int (Int32.ofInt (0))))) (none))
noncomputable def rw_113lr : Nat → Option Op := fun n => cond (Nat.beq n 3) (some (oLoad 113 4 0 4)) (cond (Nat.beq n 4) (some (oLoad 113 5 1 0)) (cond (Nat.beq n 5) (some (oLoad 113 6 2 0)) (none)))
noncomputable def rw_113l : Nat → Option Op := fun n => cond (Nat.blt n 3) (rw_113ll n) (rw_113lr n)
noncomputable def rw_113rl : Nat → Option Op := fun n => cond (Nat.beq n 6) (some (oLoad 113 7 3 0)) (cond (Nat.beq n 7) (some (oCall (runC 57) 113 10 2 4 0 5 (hdT (some 19) (some 15) none none))) (none))
noncomputable def rw_113rr : Nat → Option Op := fun n => cond (Nat.beq n 15) (some (oStore 113 17 5 4)) (cond (Nat.beq n 17) (some (oPush 113 18 (.int (Int32.ofInt (1))))) (cond (Nat.beq n 18) (some (oRet .int 0)) (none)))
noncomputable def rw_113r : Nat → Option Op := fun n => cond (Nat.blt n 15) (rw_113rl n) (rw_113rr n)
noncomputable def rw_113 : Nat → Option Op := fun n => cond (Nat.blt n 6) (rw_113l n) (rw_113r n)
noncomputable def rw_114ll : Nat → Option Op := fun n => cond (Nat.beq n 0) (some (oLoad 114 2 5 4)) (cond (Nat.beq n 2) (some (oPush 114 3 (.int (Int32.ofInt (0))))) (cond (Nat.beq n 3) (some (oLoad 114 4 0 4)) (cond (Nat.beq n 4) (some (oLoad 114 5 1 0)) (none))))
noncomputable def rw_114lr : Nat → Option Op := fun n => cond (Nat.beq n 5) (some (oLoad 114 6 2 0)) (cond (Nat.beq n 6) (some (oLoad 114 7 3 0)) (cond (Nat.beq n 7) (some (oLoad 114 9 4 0)) (cond (Nat.beq n 9) (some (oCall (runC 58) 114 12 2 5 0 5 (hdT none none (some 17) none))) (none))))
noncomputable def rw_114l : Nat → Option Op := fun n => cond (Nat.blt n 5) (rw_114ll n) (rw_114lr n)
noncomputable def rw_114rl : Nat → Option Op := fun n => cond (Nat.beq n 12) (some (oI2l 114 13)) (cond (Nat.beq n 13) (some (oLast 114 14)) (cond (Nat.beq n 14) (some (oGoto 114 21)) (cond (Nat.beq n 17) (some (oStore 114 19 6 4)) (none))))
noncomputable def rw_114rr : Nat → Option Op := fun n => cond (Nat.beq n 19) (some (oPush 114 20 (.int (Int32.ofInt (1))))) (cond (Nat.beq n 20) (some (oRet .int 0)) (cond (Nat.beq n 21) (some (oPush 114 22 (.int (Int32.ofInt (0))))) (cond (Nat.beq n 22) (some (oRet .int 0)) (none))))
noncomputable def rw_114r : Nat → Option Op := fun n => cond (Nat.blt n 19) (rw_114rl n) (rw_114rr n)
noncomputable def rw_114 : Nat → Option Op := fun n => cond (Nat.blt n 12) (rw_114l n) (rw_114r n)
noncomputable def rw_115lllll : Nat → Option Op := fun n => cond (Nat.beq n 0) (some (oLoad 115 1 0 4)) (cond (Nat.beq n 1) (some (oObj 115 4)) (cond (Nat.beq n 4) (some (oLoad 115 5 0 4)) (none)))
noncomputable def rw_115llllr : Nat → Option Op := fun n => cond (Nat.beq n 5) (some (oNew 115 8 4 3 [.null, .int 0, .int 0])) (cond (Nat.beq n 8) (some (oDup 115 9)) (cond (Nat.beq n 9) (some (oCall (runC 180) 115 12 3 1 0 1 hdN)) (none)))
noncomputable def rw_115llll : Nat → Option Op := fun n => cond (Nat.blt n 5) (rw_115lllll n) (rw_115llllr n)
noncomputable def rw_115lllrl : Nat → Option Op := fun n => cond (Nat.beq n 12) (some (oPut 115 15 2 0 (.object "java/util/ArrayList"))) (cond (Nat.beq n 15) (some (oLoad 115 16 0 4)) (cond (Nat.beq n 16) (some (oNew 115 19 4 3 [.null, .int 0, .int 0])) (none)))
noncomputable def rw_115lllrr : Nat → Option Op := fun n => cond (Nat.beq n 19) (some (oDup 115 20)) (cond (Nat.beq n 20) (some (oCall (runC 180) 115 23 3 1 0 1 hdN)) (cond (Nat.beq n 23) (some (oPut 115 26 2 1 (.object "java/util/ArrayList"))) (none)))
noncomputable def rw_115lllr : Nat → Option Op := fun n => cond (Nat.blt n 19) (rw_115lllrl n) (rw_115lllrr n)
noncomputable def rw_115lll : Nat → Option Op := fun n => cond (Nat.blt n 12) (rw_115llll n) (rw_115lllr n)
noncomputable def rw_115llrll : Nat → Option Op := fun n => cond (Nat.beq n 26) (some (oLoad 115 27 0 4)) (cond (Nat.beq n 27) (some (oNew 115 30 4 3 [.null, .int 0, .int 0])) (cond (Nat.beq n 30) (some (oDup 115 31)) (none)))
noncomputable def rw_115llrlr : Nat → Option Op := fun n => cond (Nat.beq n 31) (some (oCall (runC 180) 115 34 3 1 0 1 hdN)) (cond (Nat.beq n 34) (some (oPut 115 37 2 2 (.object "java/util/ArrayList"))) (cond (Nat.beq n 37) (some (oLoad 115 38 0 4)) (none)))
noncomputable def rw_115llrl : Nat → Option Op := fun n => cond (Nat.blt n 31) (rw_115llrll n) (rw_115llrlr n)
noncomputable def rw_115llrrl : Nat → Option Op := fun n => cond (Nat.beq n 38) (some (oNew 115 41 4 3 [.null, .int 0, .int 0])) (cond (Nat.beq n 41) (some (oDup 115 42)) (cond (Nat.beq n 42) (some (oCall (runC 180) 115 45 3 1 0 1 hdN)) (none)))
noncomputable def rw_115llrrr : Nat → Option Op := fun n => cond (Nat.beq n 45) (some (oPut 115 48 2 3 (.object "java/util/ArrayList"))) (cond (Nat.beq n 48) (some (oLoad 115 49 0 4)) (cond (Nat.beq n 49) (some (oNew 115 52 4 3 [.null, .int 0, .int 0])) (cond (Nat.beq n 52) (some (oDup 115 53)) (none))))
noncomputable def rw_115llrr : Nat → Option Op := fun n => cond (Nat.blt n 45) (rw_115llrrl n) (rw_115llrrr n)
noncomputable def rw_115llr : Nat → Option Op := fun n => cond (Nat.blt n 38) (rw_115llrl n) (rw_115llrr n)
noncomputable def rw_115ll : Nat → Option Op := fun n => cond (Nat.blt n 26) (rw_115lll n) (rw_115llr n)
noncomputable def rw_115lrlll : Nat → Option Op := fun n => cond (Nat.beq n 53) (some (oCall (runC 180) 115 56 3 1 0 1 hdN)) (cond (Nat.beq n 56) (some (oPut 115 59 2 4 (.object "java/util/ArrayList"))) (cond (Nat.beq n 59) (some (oLoad 115 60 0 4)) (none)))
noncomputable def rw_115lrllr : Nat → Option Op := fun n => cond (Nat.beq n 60) (some (oPush 115 62 (.int (Int32.ofInt (64))))) (cond (Nat.beq n 62) (some (oNewarr 115 64 .int 0)) (cond (Nat.beq n 64) (some (oPut 115 67 2 5 (.array .int))) (none)))
noncomputable def rw_115lrll : Nat → Option Op := fun n => cond (Nat.blt n 60) (rw_115lrlll n) (rw_115lrllr n)
noncomputable def rw_115lrlrl : Nat → Option Op := fun n => cond (Nat.beq n 67) (some (oLoad 115 68 0 4)) (cond (Nat.beq n 68) (some (oPush 115 70 (.int (Int32.ofInt (80))))) (cond (Nat.beq n 70) (some (oNewarr 115 72 .int 0)) (none)))
noncomputable def rw_115lrlrr : Nat → Option Op := fun n => cond (Nat.beq n 72) (some (oPut 115 75 2 6 (.array .int))) (cond (Nat.beq n 75) (some (oLoad 115 76 0 4)) (cond (Nat.beq n 76) (some (oPush 115 77 (.int (Int32.ofInt (2))))) (none)))
noncomputable def rw_115lrlr : Nat → Option Op := fun n => cond (Nat.blt n 72) (rw_115lrlrl n) (rw_115lrlrr n)
noncomputable def rw_115lrl : Nat → Option Op := fun n => cond (Nat.blt n 67) (rw_115lrll n) (rw_115lrlr n)
noncomputable def rw_115lrrll : Nat → Option Op := fun n => cond (Nat.beq n 77) (some (oPush 115 78 (.int (Int32.ofInt (4))))) (cond (Nat.beq n 78) (some (oPush 115 79 (.int (Int32.ofInt (4))))) (cond (Nat.beq n 79) (some (oMul3 115 83 (.int (Int32.ofInt 4)) (.int (Int32.ofInt 4)) (.int (Int32.ofInt 2)) mulN 11 42)) (none)))
noncomputable def rw_115lrrlr : Nat → Option Op := fun n => cond (Nat.beq n 83) (some (oPut 115 86 2 7 (.array (.array (.array .int))))) (cond (Nat.beq n 86) (some (oLoad 115 87 0 4)) (cond (Nat.beq n 87) (some (oPush 115 88 (.int (Int32.ofInt (1))))) (none)))
noncomputable def rw_115lrrl : Nat → Option Op := fun n => cond (Nat.blt n 83) (rw_115lrrll n) (rw_115lrrlr n)
noncomputable def rw_115lrrrl : Nat → Option Op := fun n => cond (Nat.beq n 88) (some (oNewarr 115 90 .long 1)) (cond (Nat.beq n 90) (some (oPut 115 93 2 8 (.array .long))) (cond (Nat.beq n 93) (some (oLoad 115 94 0 4)) (none)))
noncomputable def rw_115lrrrr : Nat → Option Op := fun n => cond (Nat.beq n 94) (some (oPush 115 95 (.int (Int32.ofInt (0))))) (cond (Nat.beq n 95) (some (oNewarr 115 97 .int 0)) (cond (Nat.beq n 97) (some (oPut 115 100 2 9 (.array .int))) (cond (Nat.beq n 100) (some (oLoad 115 101 0 4)) (none))))
noncomputable def rw_115lrrr : Nat → Option Op := fun n => cond (Nat.blt n 94) (rw_115lrrrl n) (rw_115lrrrr n)
noncomputable def rw_115lrr : Nat → Option Op := fun n => cond (Nat.blt n 88) (rw_115lrrl n) (rw_115lrrr n)
noncomputable def rw_115lr : Nat → Option Op := fun n => cond (Nat.blt n 77) (rw_115lrl n) (rw_115lrr n)
noncomputable def rw_115l : Nat → Option Op := fun n => cond (Nat.blt n 53) (rw_115ll n) (rw_115lr n)
noncomputable def rw_115rllll : Nat → Option Op := fun n => cond (Nat.beq n 101) (some (oPush 115 103 (.int (Int32.ofInt (262144))))) (cond (Nat.beq n 103) (some (oNewarr 115 105 .long 1)) (cond (Nat.beq n 105) (some (oPut 115 108 2 17 (.array .long))) (none)))
noncomputable def rw_115rlllr : Nat → Option Op := fun n => cond (Nat.beq n 108) (some (oLoad 115 109 0 4)) (cond (Nat.beq n 109) (some (oPush 115 111 (.int (Int32.ofInt (262144))))) (cond (Nat.beq n 111) (some (oNewarr 115 113 .int 0)) (none)))
noncomputable def rw_115rlll : Nat → Option Op := fun n => cond (Nat.blt n 108) (rw_115rllll n) (rw_115rlllr n)
noncomputable def rw_115rllrl : Nat → Option Op := fun n => cond (Nat.beq n 113) (some (oPut 115 116 2 18 (.array .int))) (cond (Nat.beq n 116) (some (oLoad 115 117 0 4)) (cond (Nat.beq n 117) (some (oPush 115 119 (.int (Int32.ofInt (262144))))) (none)))
noncomputable def rw_115rllrr : Nat → Option Op := fun n => cond (Nat.beq n 119) (some (oNewarr 115 121 .int 0)) (cond (Nat.beq n 121) (some (oPut 115 124 2 19 (.array .int))) (cond (Nat.beq n 124) (some (oLoad 115 125 0 4)) (none)))
noncomputable def rw_115rllr : Nat → Option Op := fun n => cond (Nat.blt n 119) (rw_115rllrl n) (rw_115rllrr n)
noncomputable def rw_115rll : Nat → Option Op := fun n => cond (Nat.blt n 113) (rw_115rlll n) (rw_115rllr n)
noncomputable def rw_115rlrll : Nat → Option Op := fun n => cond (Nat.beq n 125) (some (oPush 115 126 (.int (Int32.ofInt (1))))) (cond (Nat.beq n 126) (some (oNewarr 115 128 .int 0)) (cond (Nat.beq n 128) (some (oPut 115 131 2 20 (.array .int))) (none)))
noncomputable def rw_115rlrlr : Nat → Option Op := fun n => cond (Nat.beq n 131) (some (oLoad 115 132 0 4)) (cond (Nat.beq n 132) (some (oPush 115 134 (.int (Int32.ofInt (80))))) (cond (Nat.beq n 134) (some (oNewarr 115 136 .int 0)) (none)))
noncomputable def rw_115rlrl : Nat → Option Op := fun n => cond (Nat.blt n 131) (rw_115rlrll n) (rw_115rlrlr n)
noncomputable def rw_115rlrrl : Nat → Option Op := fun n => cond (Nat.beq n 136) (some (oPut 115 139 2 23 (.array .int))) (cond (Nat.beq n 139) (some (oLoad 115 140 0 4)) (cond (Nat.beq n 140) (some (oPush 115 143 (.int (Int32.ofInt (256))))) (none)))
noncomputable def rw_115rlrrr : Nat → Option Op := fun n => cond (Nat.beq n 143) (some (oNewarr 115 145 .int 0)) (cond (Nat.beq n 145) (some (oPut 115 148 2 24 (.array .int))) (cond (Nat.beq n 148) (some (oLoad 115 149 0 4)) (cond (Nat.beq n 149) (some (oPush 115 152 (.int (Int32.ofInt (256))))) (none))))
noncomputable def rw_115rlrr : Nat → Option Op := fun n => cond (Nat.blt n 143) (rw_115rlrrl n) (rw_115rlrrr n)
noncomputable def rw_115rlr : Nat → Option Op := fun n => cond (Nat.blt n 136) (rw_115rlrl n) (rw_115rlrr n)
noncomputable def rw_115rl : Nat → Option Op := fun n => cond (Nat.blt n 125) (rw_115rll n) (rw_115rlr n)
noncomputable def rw_115rrlll : Nat → Option Op := fun n => cond (Nat.beq n 152) (some (oNewarr 115 154 .int 0)) (cond (Nat.beq n 154) (some (oPut 115 157 2 25 (.array .int))) (cond (Nat.beq n 157) (some (oLoad 115 158 0 4)) (none)))
noncomputable def rw_115rrllr : Nat → Option Op := fun n => cond (Nat.beq n 158) (some (oPush 115 161 (.int (Int32.ofInt (256))))) (cond (Nat.beq n 161) (some (oNewarr 115 163 .int 0)) (cond (Nat.beq n 163) (some (oPut 115 166 2 26 (.array .int))) (none)))
noncomputable def rw_115rrll : Nat → Option Op := fun n => cond (Nat.blt n 158) (rw_115rrlll n) (rw_115rrllr n)
noncomputable def rw_115rrlrl : Nat → Option Op := fun n => cond (Nat.beq n 166) (some (oLoad 115 167 0 4)) (cond (Nat.beq n 167) (some (oPush 115 170 (.int (Int32.ofInt (256))))) (cond (Nat.beq n 170) (some (oNewarr 115 172 .int 0)) (none)))
noncomputable def rw_115rrlrr : Nat → Option Op := fun n => cond (Nat.beq n 172) (some (oPut 115 175 2 27 (.array .int))) (cond (Nat.beq n 175) (some (oLoad 115 176 0 4)) (cond (Nat.beq n 176) (some (oGet 115 179 2 2)) (none)))
noncomputable def rw_115rrlr : Nat → Option Op := fun n => cond (Nat.blt n 172) (rw_115rrlrl n) (rw_115rrlrr n)
noncomputable def rw_115rrl : Nat → Option Op := fun n => cond (Nat.blt n 166) (rw_115rrll n) (rw_115rrlr n)
noncomputable def rw_115rrrll : Nat → Option Op := fun n => cond (Nat.beq n 179) (some (oNew 115 182 4 3 [.null, .int 0, .int 0])) (cond (Nat.beq n 182) (some (oDup 115 183)) (cond (Nat.beq n 183) (some (oCall (runC 180) 115 186 3 1 0 1 hdN)) (none)))
noncomputable def rw_115rrrlr : Nat → Option Op := fun n => cond (Nat.beq n 186) (some (oCall (runC 181) 115 189 2 2 4 2 hdN)) (cond (Nat.beq n 189) (some (oPop 115 190)) (cond (Nat.beq n 190) (some (oLoad 115 191 0 4)) (none)))
noncomputable def rw_115rrrl : Nat → Option Op := fun n => cond (Nat.blt n 186) (rw_115rrrll n) (rw_115rrrlr n)
noncomputable def rw_115rrrrl : Nat → Option Op := fun n => cond (Nat.beq n 191) (some (oGet 115 194 2 2)) (cond (Nat.beq n 194) (some (oNew 115 197 4 3 [.null, .int 0, .int 0])) (cond (Nat.beq n 197) (some (oDup 115 198)) (none)))
noncomputable def rw_115rrrrr : Nat → Option Op := fun n => cond (Nat.beq n 198) (some (oCall (runC 180) 115 201 3 1 0 1 hdN)) (cond (Nat.beq n 201) (some (oCall (runC 181) 115 204 2 2 4 2 hdN)) (cond (Nat.beq n 204) (some (oPop 115 205)) (cond (Nat.beq n 205) (some (oRet0)) (none))))
noncomputable def rw_115rrrr : Nat → Option Op := fun n => cond (Nat.blt n 198) (rw_115rrrrl n) (rw_115rrrrr n)
noncomputable def rw_115rrr : Nat → Option Op := fun n => cond (Nat.blt n 191) (rw_115rrrl n) (rw_115rrrr n)
noncomputable def rw_115rr : Nat → Option Op := fun n => cond (Nat.blt n 179) (rw_115rrl n) (rw_115rrr n)
noncomputable def rw_115r : Nat → Option Op := fun n => cond (Nat.blt n 152) (rw_115rl n) (rw_115rr n)
noncomputable def rw_115 : Nat → Option Op := fun n => cond (Nat.blt n 101) (rw_115l n) (rw_115r n)
noncomputable def rw_116l : Nat → Option Op := fun n => cond (Nat.beq n 0) (some (oLoad 116 1 0 4)) (cond (Nat.beq n 1) (some (oGet 116 4 2 0)) (cond (Nat.beq n 4) (some (oLoad 116 5 1 4)) (none)))
noncomputable def rw_116r : Nat → Option Op := fun n => cond (Nat.beq n 5) (some (oCall (runC 181) 116 8 2 2 4 2 hdN)) (cond (Nat.beq n 8) (some (oPop 116 9)) (cond (Nat.beq n 9) (some (oLoad 116 10 1 4)) (cond (Nat.beq n 10) (some (oRet (.object "MiterhouseModel$Line") 4)) (none))))
noncomputable def rw_116 : Nat → Option Op := fun n => cond (Nat.blt n 5) (rw_116l n) (rw_116r n)
noncomputable def rw_117ll : Nat → Option Op := fun n => cond (Nat.beq n 0) (some (oLoad 117 1 0 4)) (cond (Nat.beq n 1) (some (oLoad 117 2 0 4)) (cond (Nat.beq n 2) (some (oGet 117 5 2 16)) (none)))
noncomputable def rw_117lr : Nat → Option Op := fun n => cond (Nat.beq n 5) (some (oCmp1 117 8 12 .ne)) (cond (Nat.beq n 8) (some (oPush 117 9 (.int (Int32.ofInt (1))))) (cond (Nat.beq n 9) (some (oGoto 117 13)) (none)))
noncomputable def rw_117l : Nat → Option Op := fun n => cond (Nat.blt n 5) (rw_117ll n) (rw_117lr n)
noncomputable def rw_117rl : Nat → Option Op := fun n => cond (Nat.beq n 13) (some (oPush 117 14 (.int (Int32.ofInt (1))))) (cond (Nat.beq n 14) (some (oCall (runC 145) 117 17 2 3 2 3 hdN)) (cond (Nat.beq n 17) (some (oCmp1 117 20 24 .eq)) (none)))
noncomputable def rw_117rr : Nat → Option Op := fun n => cond (Nat.beq n 20) (some (oPush 117 21 (.int (Int32.ofInt (0))))) (cond (Nat.beq n 21) (some (oGoto 117 32)) (cond (Nat.beq n 32) (some (oRet .int 0)) (none)))
noncomputable def rw_117r : Nat → Option Op := fun n => cond (Nat.blt n 20) (rw_117rl n) (rw_117rr n)
noncomputable def rw_117 : Nat → Option Op := fun n => cond (Nat.blt n 13) (rw_117l n) (rw_117r n)
noncomputable def rw_118ll : Nat → Option Op := fun n => cond (Nat.beq n 0) (some (oLoad 118 1 0 4)) (cond (Nat.beq n 1) (some (oLoad 118 2 0 4)) (cond (Nat.beq n 2) (some (oGet 118 5 2 16)) (none)))
noncomputable def rw_118lr : Nat → Option Op := fun n => cond (Nat.beq n 5) (some (oCmp1 118 8 12 .ne)) (cond (Nat.beq n 8) (some (oPush 118 9 (.int (Int32.ofInt (1))))) (cond (Nat.beq n 9) (some (oGoto 118 13)) (none)))
noncomputable def rw_118l : Nat → Option Op := fun n => cond (Nat.blt n 5) (rw_118ll n) (rw_118lr n)
noncomputable def rw_118rl : Nat → Option Op := fun n => cond (Nat.beq n 13) (some (oPush 118 14 (.int (Int32.ofInt (1))))) (cond (Nat.beq n 14) (some (oCall (runC 145) 118 17 2 3 2 3 hdN)) (cond (Nat.beq n 17) (some (oCmp1 118 20 24 .eq)) (none)))
noncomputable def rw_118rr : Nat → Option Op := fun n => cond (Nat.beq n 20) (some (oPush 118 21 (.int (Int32.ofInt (0))))) (cond (Nat.beq n 21) (some (oGoto 118 31)) (cond (Nat.beq n 31) (some (oRet .int 0)) (none)))
noncomputable def rw_118r : Nat → Option Op := fun n => cond (Nat.blt n 20) (rw_118rl n) (rw_118rr n)
noncomputable def rw_118 : Nat → Option Op := fun n => cond (Nat.blt n 13) (rw_118l n) (rw_118r n)
noncomputable def rw_119ll : Nat → Option Op := fun n => cond (Nat.beq n 0) (some (oLoad 119 1 0 4)) (cond (Nat.beq n 1) (some (oLoad 119 2 0 4)) (cond (Nat.beq n 2) (some (oLoad 119 3 1 0)) (none)))
noncomputable def rw_119lr : Nat → Option Op := fun n => cond (Nat.beq n 3) (some (oCall (runC 141) 119 6 2 2 2 2 hdN)) (cond (Nat.beq n 6) (some (oCmp1 119 9 17 .eq)) (cond (Nat.beq n 17) (some (oPush 119 18 (.int (Int32.ofInt (1))))) (none)))
noncomputable def rw_119l : Nat → Option Op := fun n => cond (Nat.blt n 3) (rw_119ll n) (rw_119lr n)
noncomputable def rw_119rl : Nat → Option Op := fun n => cond (Nat.beq n 18) (some (oGoto 119 22)) (cond (Nat.beq n 22) (some (oPush 119 23 (.int (Int32.ofInt (1))))) (cond (Nat.beq n 23) (some (oCall (runC 145) 119 26 2 3 2 3 hdN)) (none)))
noncomputable def rw_119rr : Nat → Option Op := fun n => cond (Nat.beq n 26) (some (oCmp1 119 29 49 .ne)) (cond (Nat.beq n 49) (some (oPush 119 50 (.int (Int32.ofInt (1))))) (cond (Nat.beq n 50) (some (oGoto 119 54)) (cond (Nat.beq n 54) (some (oRet .boolean 0)) (none))))
noncomputable def rw_119r : Nat → Option Op := fun n => cond (Nat.blt n 26) (rw_119rl n) (rw_119rr n)
noncomputable def rw_119 : Nat → Option Op := fun n => cond (Nat.blt n 18) (rw_119l n) (rw_119r n)
noncomputable def rw_120l : Nat → Option Op := fun n => cond (Nat.beq n 0) (some (oLoad 120 1 0 4)) (cond (Nat.beq n 1) (some (oLoad 120 2 1 0)) (cond (Nat.beq n 2) (some (oCall (runC 142) 120 5 2 2 2 2 hdN)) (none)))
noncomputable def rw_120r : Nat → Option Op := fun n => cond (Nat.beq n 5) (some (oCmp1 120 8 10 .eq)) (cond (Nat.beq n 8) (some (oPush 120 9 (.int (Int32.ofInt (0))))) (cond (Nat.beq n 9) (some (oRet .int 0)) (none)))
noncomputable def rw_120 : Nat → Option Op := fun n => cond (Nat.blt n 5) (rw_120l n) (rw_120r n)
noncomputable def rw_121llll : Nat → Option Op := fun n => cond (Nat.beq n 0) (some (oLoad 121 1 0 4)) (cond (Nat.beq n 1) (some (oLoad 121 2 1 0)) (cond (Nat.beq n 2) (some (oPush 121 3 (.int (Int32.ofInt (0))))) (cond (Nat.beq n 3) (some (oPush 121 4 (.int (Int32.ofInt (1))))) (none))))
noncomputable def rw_121lllr : Nat → Option Op := fun n => cond (Nat.beq n 4) (some (oCall (runC 138) 121 7 1 3 0 3 hdN)) (cond (Nat.beq n 7) (some (oCmp1 121 10 29 .eq)) (cond (Nat.beq n 10) (some (oLoad 121 11 2 0)) (cond (Nat.beq n 11) (some (oPush 121 12 (.int (Int32.ofInt (0))))) (none))))
noncomputable def rw_121lll : Nat → Option Op := fun n => cond (Nat.blt n 4) (rw_121llll n) (rw_121lllr n)
noncomputable def rw_121llrl : Nat → Option Op := fun n => cond (Nat.beq n 12) (some (oPush 121 13 (.int (Int32.ofInt (1))))) (cond (Nat.beq n 13) (some (oCall (runC 138) 121 16 1 3 0 3 hdN)) (cond (Nat.beq n 16) (some (oCmp1 121 19 29 .eq)) (cond (Nat.beq n 19) (some (oLoad 121 20 3 0)) (none))))
noncomputable def rw_121llrrl : Nat → Option Op := fun n => cond (Nat.beq n 20) (some (oPush 121 21 (.int (Int32.ofInt (0))))) (cond (Nat.beq n 21) (some (oPush 121 23 (.int (Int32.ofInt (9))))) (none))
noncomputable def rw_121llrrr : Nat → Option Op := fun n => cond (Nat.beq n 23) (some (oCall (runC 138) 121 26 1 3 0 3 hdN)) (cond (Nat.beq n 26) (some (oCmp1 121 29 33 .ne)) (cond (Nat.beq n 29) (some (oPush 121 30 (.int (Int32.ofInt (1))))) (none)))
noncomputable def rw_121llrr : Nat → Option Op := fun n => cond (Nat.blt n 23) (rw_121llrrl n) (rw_121llrrr n)
noncomputable def rw_121llr : Nat → Option Op := fun n => cond (Nat.blt n 20) (rw_121llrl n) (rw_121llrr n)
noncomputable def rw_121ll : Nat → Option Op := fun n => cond (Nat.blt n 12) (rw_121lll n) (rw_121llr n)
noncomputable def rw_121lrll : Nat → Option Op := fun n => cond (Nat.beq n 30) (some (oGoto 121 34)) (cond (Nat.beq n 33) (some (oPush 121 34 (.int (Int32.ofInt (0))))) (cond (Nat.beq n 34) (some (oPush 121 35 (.int (Int32.ofInt (1))))) (cond (Nat.beq n 35) (some (oCall (runC 145) 121 38 2 3 2 3 hdN)) (none))))
noncomputable def rw_121lrlr : Nat → Option Op := fun n => cond (Nat.beq n 38) (some (oCmp1 121 41 104 .ne)) (cond (Nat.beq n 41) (some (oLoad 121 42 0 4)) (cond (Nat.beq n 42) (some (oLoad 121 43 0 4)) (cond (Nat.beq n 43) (some (oGet 121 46 2 16)) (none))))
noncomputable def rw_121lrl : Nat → Option Op := fun n => cond (Nat.blt n 38) (rw_121lrll n) (rw_121lrlr n)
noncomputable def rw_121lrrl : Nat → Option Op := fun n => cond (Nat.beq n 46) (some (oCmp1 121 49 58 .ne)) (cond (Nat.beq n 49) (some (oLoad 121 50 0 4)) (cond (Nat.beq n 50) (some (oLoad 121 51 1 0)) (cond (Nat.beq n 51) (some (oLoad 121 52 3 0)) (none))))
noncomputable def rw_121lrrrl : Nat → Option Op := fun n => cond (Nat.beq n 52) (some (oCall (runC 152) 121 55 2 3 2 6 hdN)) (cond (Nat.beq n 55) (some (oNull 121 58 62 true)) (none))
noncomputable def rw_121lrrrr : Nat → Option Op := fun n => cond (Nat.beq n 62) (some (oPush 121 63 (.int (Int32.ofInt (0))))) (cond (Nat.beq n 63) (some (oPush 121 64 (.int (Int32.ofInt (2))))) (cond (Nat.beq n 64) (some (oCall (runC 145) 121 67 2 3 2 3 hdN)) (none)))
noncomputable def rw_121lrrr : Nat → Option Op := fun n => cond (Nat.blt n 62) (rw_121lrrrl n) (rw_121lrrrr n)
noncomputable def rw_121lrr : Nat → Option Op := fun n => cond (Nat.blt n 52) (rw_121lrrl n) (rw_121lrrr n)
noncomputable def rw_121lr : Nat → Option Op := fun n => cond (Nat.blt n 46) (rw_121lrl n) (rw_121lrr n)
noncomputable def rw_121l : Nat → Option Op := fun n => cond (Nat.blt n 30) (rw_121ll n) (rw_121lr n)
noncomputable def rw_121rlll : Nat → Option Op := fun n => cond (Nat.beq n 67) (some (oCmp1 121 70 104 .ne)) (cond (Nat.beq n 70) (some (oLoad 121 71 0 4)) (cond (Nat.beq n 71) (some (oLoad 121 72 0 4)) (cond (Nat.beq n 72) (some (oGet 121 75 2 0)) (none))))
noncomputable def rw_121rllr : Nat → Option Op := fun n => cond (Nat.beq n 75) (some (oCall (runC 189) 121 78 2 1 4 1 hdN)) (cond (Nat.beq n 78) (some (oPush 121 80 (.int (Int32.ofInt (80))))) (cond (Nat.beq n 80) (some (oCmp2 121 83 92 .eq)) (cond (Nat.beq n 83) (some (oLoad 121 84 0 4)) (none))))
noncomputable def rw_121rll : Nat → Option Op := fun n => cond (Nat.blt n 75) (rw_121rlll n) (rw_121rllr n)
noncomputable def rw_121rlrl : Nat → Option Op := fun n => cond (Nat.beq n 84) (some (oLoad 121 85 1 0)) (cond (Nat.beq n 85) (some (oCall (runC 123) 121 88 2 2 2 5 hdN)) (cond (Nat.beq n 88) (some (oPush 121 89 (.int (Int32.ofInt (4))))) (cond (Nat.beq n 89) (some (oCmp2 121 92 96 .ne)) (none))))
noncomputable def rw_121rlrrl : Nat → Option Op := fun n => cond (Nat.beq n 96) (some (oPush 121 97 (.int (Int32.ofInt (0))))) (cond (Nat.beq n 97) (some (oPush 121 98 (.int (Int32.ofInt (3))))) (none))
noncomputable def rw_121rlrrr : Nat → Option Op := fun n => cond (Nat.beq n 98) (some (oCall (runC 145) 121 101 2 3 2 3 hdN)) (cond (Nat.beq n 101) (some (oCmp1 121 104 106 .eq)) (cond (Nat.beq n 104) (some (oPush 121 105 (.int (Int32.ofInt (0))))) (none)))
noncomputable def rw_121rlrr : Nat → Option Op := fun n => cond (Nat.blt n 98) (rw_121rlrrl n) (rw_121rlrrr n)
noncomputable def rw_121rlr : Nat → Option Op := fun n => cond (Nat.blt n 96) (rw_121rlrl n) (rw_121rlrr n)
noncomputable def rw_121rl : Nat → Option Op := fun n => cond (Nat.blt n 84) (rw_121rll n) (rw_121rlr n)
noncomputable def rw_121rrll : Nat → Option Op := fun n => cond (Nat.beq n 105) (some (oRet .int 0)) (cond (Nat.beq n 106) (some (oLoad 121 107 0 4)) (cond (Nat.beq n 107) (some (oNew 121 110 3 14 [.int 0, .int 0, .int 0, .int 0, .int 0, .null, .null, .int 0, .null, .null, .int 0, .int 0, .int 0, .long 0])) (cond (Nat.beq n 110) (some (oDup 121 111)) (none))))
noncomputable def rw_121rrlr : Nat → Option Op := fun n => cond (Nat.beq n 111) (some (oLoad 121 112 0 4)) (cond (Nat.beq n 112) (some (oGet 121 115 2 0)) (cond (Nat.beq n 115) (some (oCall (runC 189) 121 118 2 1 4 1 hdN)) (cond (Nat.beq n 118) (some (oLoad 121 119 1 0)) (none))))
noncomputable def rw_121rrl : Nat → Option Op := fun n => cond (Nat.blt n 111) (rw_121rrll n) (rw_121rrlr n)
noncomputable def rw_121rrrl : Nat → Option Op := fun n => cond (Nat.beq n 119) (some (oPush 121 121 (.int (Int32.ofInt (99))))) (cond (Nat.beq n 121) (some (oPush 121 122 (.null))) (cond (Nat.beq n 122) (some (oPush 121 123 (.null))) (cond (Nat.beq n 123) (some (oLoad 121 124 2 0)) (none))))
noncomputable def rw_121rrrrl : Nat → Option Op := fun n => cond (Nat.beq n 124) (some (oLoad 121 125 3 0)) (cond (Nat.beq n 125) (some (oCall (runC 176) 121 128 3 8 0 8 hdN)) (none))
noncomputable def rw_121rrrrr : Nat → Option Op := fun n => cond (Nat.beq n 128) (some (oCall (runC 116) 121 131 2 2 2 2 hdN)) (cond (Nat.beq n 131) (some (oGet 121 134 3 0)) (cond (Nat.beq n 134) (some (oRet .int 0)) (none)))
noncomputable def rw_121rrrr : Nat → Option Op := fun n => cond (Nat.blt n 128) (rw_121rrrrl n) (rw_121rrrrr n)
noncomputable def rw_121rrr : Nat → Option Op := fun n => cond (Nat.blt n 124) (rw_121rrrl n) (rw_121rrrr n)
noncomputable def rw_121rr : Nat → Option Op := fun n => cond (Nat.blt n 119) (rw_121rrl n) (rw_121rrr n)
noncomputable def rw_121r : Nat → Option Op := fun n => cond (Nat.blt n 105) (rw_121rl n) (rw_121rr n)
noncomputable def rw_121 : Nat → Option Op := fun n => cond (Nat.blt n 67) (rw_121l n) (rw_121r n)
noncomputable def rw_122ll : Nat → Option Op := fun n => cond (Nat.beq n 0) (some (oLoad 122 1 0 4)) (cond (Nat.beq n 1) (some (oLoad 122 2 0 4)) (none))
noncomputable def rw_122lr : Nat → Option Op := fun n => cond (Nat.beq n 2) (some (oGet 122 5 2 16)) (cond (Nat.beq n 5) (some (oCmp1 122 8 12 .ne)) (cond (Nat.beq n 8) (some (oPush 122 9 (.int (Int32.ofInt (1))))) (none)))
noncomputable def rw_122l : Nat → Option Op := fun n => cond (Nat.blt n 2) (rw_122ll n) (rw_122lr n)
noncomputable def rw_122rl : Nat → Option Op := fun n => cond (Nat.beq n 9) (some (oGoto 122 13)) (cond (Nat.beq n 13) (some (oPush 122 14 (.int (Int32.ofInt (1))))) (cond (Nat.beq n 14) (some (oCall (runC 145) 122 17 2 3 2 3 hdN)) (none)))
noncomputable def rw_122rr : Nat → Option Op := fun n => cond (Nat.beq n 17) (some (oCmp1 122 20 22 .eq)) (cond (Nat.beq n 20) (some (oPush 122 21 (.int (Int32.ofInt (0))))) (cond (Nat.beq n 21) (some (oRet .int 0)) (none)))
noncomputable def rw_122r : Nat → Option Op := fun n => cond (Nat.blt n 17) (rw_122rl n) (rw_122rr n)
noncomputable def rw_122 : Nat → Option Op := fun n => cond (Nat.blt n 9) (rw_122l n) (rw_122r n)
noncomputable def rw_123ll : Nat → Option Op := fun n => cond (Nat.beq n 0) (some (oPush 123 1 (.int (Int32.ofInt (0))))) (cond (Nat.beq n 1) (some (oStore 123 2 2 0)) (none))
noncomputable def rw_123lr : Nat → Option Op := fun n => cond (Nat.beq n 2) (some (oLoad 123 3 0 4)) (cond (Nat.beq n 3) (some (oGet 123 6 2 0)) (cond (Nat.beq n 6) (some (oCall (runC 188) 123 9 2 1 4 1 hdN)) (none)))
noncomputable def rw_123l : Nat → Option Op := fun n => cond (Nat.blt n 2) (rw_123ll n) (rw_123lr n)
noncomputable def rw_123rl : Nat → Option Op := fun n => cond (Nat.beq n 9) (some (oStore 123 10 3 4)) (cond (Nat.beq n 10) (some (oLoad 123 11 3 4)) (cond (Nat.beq n 11) (some (oCall (runC 191) 123 16 5 1 5 1 hdN)) (none)))
noncomputable def rw_123rr : Nat → Option Op := fun n => cond (Nat.beq n 16) (some (oCmp1 123 19 60 .eq)) (cond (Nat.beq n 60) (some (oLoad 123 61 2 0)) (cond (Nat.beq n 61) (some (oRet .int 0)) (none)))
noncomputable def rw_123r : Nat → Option Op := fun n => cond (Nat.blt n 16) (rw_123rl n) (rw_123rr n)
noncomputable def rw_123 : Nat → Option Op := fun n => cond (Nat.blt n 9) (rw_123l n) (rw_123r n)
noncomputable def rw_124llll : Nat → Option Op := fun n => cond (Nat.beq n 0) (some (oLoad 124 1 0 4)) (cond (Nat.beq n 1) (some (oGet 124 4 2 16)) (none))
noncomputable def rw_124lllr : Nat → Option Op := fun n => cond (Nat.beq n 4) (some (oCmp1 124 7 59 .ne)) (cond (Nat.beq n 7) (some (oLoad 124 8 0 4)) (cond (Nat.beq n 8) (some (oGet 124 11 2 2)) (none)))
noncomputable def rw_124lll : Nat → Option Op := fun n => cond (Nat.blt n 4) (rw_124llll n) (rw_124lllr n)
noncomputable def rw_124llrl : Nat → Option Op := fun n => cond (Nat.beq n 11) (some (oPush 124 12 (.int (Int32.ofInt (0))))) (cond (Nat.beq n 12) (some (oCall (runC 184) 124 15 2 2 4 2 hdN)) (none))
noncomputable def rw_124llrr : Nat → Option Op := fun n => cond (Nat.beq n 15) (some (oCast 124 18 4)) (cond (Nat.beq n 18) (some (oCall (runC 189) 124 21 2 1 4 1 hdN)) (cond (Nat.beq n 21) (some (oLoad 124 22 0 4)) (none)))
noncomputable def rw_124llr : Nat → Option Op := fun n => cond (Nat.blt n 15) (rw_124llrl n) (rw_124llrr n)
noncomputable def rw_124ll : Nat → Option Op := fun n => cond (Nat.blt n 11) (rw_124lll n) (rw_124llr n)
noncomputable def rw_124lrll : Nat → Option Op := fun n => cond (Nat.beq n 22) (some (oGet 124 25 2 2)) (cond (Nat.beq n 25) (some (oPush 124 26 (.int (Int32.ofInt (1))))) (none))
noncomputable def rw_124lrlr : Nat → Option Op := fun n => cond (Nat.beq n 26) (some (oCall (runC 184) 124 29 2 2 4 2 hdN)) (cond (Nat.beq n 29) (some (oCast 124 32 4)) (cond (Nat.beq n 32) (some (oCall (runC 189) 124 35 2 1 4 1 hdN)) (none)))
noncomputable def rw_124lrl : Nat → Option Op := fun n => cond (Nat.blt n 26) (rw_124lrll n) (rw_124lrlr n)
noncomputable def rw_124lrrl : Nat → Option Op := fun n => cond (Nat.beq n 35) (some (oCmp2 124 38 59 .ne)) (cond (Nat.beq n 38) (some (oLoad 124 39 0 4)) (cond (Nat.beq n 39) (some (oGet 124 42 2 2)) (none)))
noncomputable def rw_124lrrr : Nat → Option Op := fun n => cond (Nat.beq n 42) (some (oPush 124 43 (.int (Int32.ofInt (0))))) (cond (Nat.beq n 43) (some (oCall (runC 184) 124 46 2 2 4 2 hdN)) (cond (Nat.beq n 46) (some (oCast 124 49 4)) (none)))
noncomputable def rw_124lrr : Nat → Option Op := fun n => cond (Nat.blt n 42) (rw_124lrrl n) (rw_124lrrr n)
noncomputable def rw_124lr : Nat → Option Op := fun n => cond (Nat.blt n 35) (rw_124lrl n) (rw_124lrr n)
noncomputable def rw_124l : Nat → Option Op := fun n => cond (Nat.blt n 22) (rw_124ll n) (rw_124lr n)
noncomputable def rw_124rlll : Nat → Option Op := fun n => cond (Nat.beq n 49) (some (oCall (runC 187) 124 52 2 1 4 1 hdN)) (cond (Nat.beq n 52) (some (oCmp1 124 55 59 .ne)) (none))
noncomputable def rw_124rllr : Nat → Option Op := fun n => cond (Nat.beq n 59) (some (oPush 124 60 (.int (Int32.ofInt (0))))) (cond (Nat.beq n 60) (some (oStore 124 61 1 0)) (cond (Nat.beq n 61) (some (oLoad 124 62 0 4)) (none)))
noncomputable def rw_124rll : Nat → Option Op := fun n => cond (Nat.blt n 59) (rw_124rlll n) (rw_124rllr n)
noncomputable def rw_124rlrl : Nat → Option Op := fun n => cond (Nat.beq n 62) (some (oGet 124 65 2 0)) (cond (Nat.beq n 65) (some (oCall (runC 188) 124 68 2 1 4 1 hdN)) (none))
noncomputable def rw_124rlrr : Nat → Option Op := fun n => cond (Nat.beq n 68) (some (oStore 124 69 2 4)) (cond (Nat.beq n 69) (some (oLoad 124 70 2 4)) (cond (Nat.beq n 70) (some (oCall (runC 191) 124 75 5 1 5 1 hdN)) (none)))
noncomputable def rw_124rlr : Nat → Option Op := fun n => cond (Nat.blt n 68) (rw_124rlrl n) (rw_124rlrr n)
noncomputable def rw_124rl : Nat → Option Op := fun n => cond (Nat.blt n 62) (rw_124rll n) (rw_124rlr n)
noncomputable def rw_124rrll : Nat → Option Op := fun n => cond (Nat.beq n 75) (some (oCmp1 124 78 115 .eq)) (cond (Nat.beq n 115) (some (oLoad 124 116 0 4)) (none))
noncomputable def rw_124rrlr : Nat → Option Op := fun n => cond (Nat.beq n 116) (some (oLoad 124 117 1 0)) (cond (Nat.beq n 117) (some (oCmp1 124 120 124 .ne)) (cond (Nat.beq n 120) (some (oPush 124 121 (.int (Int32.ofInt (1))))) (none)))
noncomputable def rw_124rrl : Nat → Option Op := fun n => cond (Nat.blt n 116) (rw_124rrll n) (rw_124rrlr n)
noncomputable def rw_124rrrl : Nat → Option Op := fun n => cond (Nat.beq n 121) (some (oGoto 124 125)) (cond (Nat.beq n 125) (some (oPush 124 126 (.int (Int32.ofInt (1))))) (cond (Nat.beq n 126) (some (oCall (runC 145) 124 129 2 3 2 3 hdN)) (none)))
noncomputable def rw_124rrrr : Nat → Option Op := fun n => cond (Nat.beq n 129) (some (oCmp1 124 132 134 .eq)) (cond (Nat.beq n 132) (some (oPush 124 133 (.int (Int32.ofInt (0))))) (cond (Nat.beq n 133) (some (oRet .int 0)) (none)))
noncomputable def rw_124rrr : Nat → Option Op := fun n => cond (Nat.blt n 129) (rw_124rrrl n) (rw_124rrrr n)
noncomputable def rw_124rr : Nat → Option Op := fun n => cond (Nat.blt n 121) (rw_124rrl n) (rw_124rrr n)
noncomputable def rw_124r : Nat → Option Op := fun n => cond (Nat.blt n 75) (rw_124rl n) (rw_124rr n)
noncomputable def rw_124 : Nat → Option Op := fun n => cond (Nat.blt n 49) (rw_124l n) (rw_124r n)
noncomputable def rw_125llll : Nat → Option Op := fun n => cond (Nat.beq n 0) (some (oLoad 125 1 0 4)) (cond (Nat.beq n 1) (some (oLoad 125 2 1 0)) (cond (Nat.beq n 2) (some (oPush 125 3 (.int (Int32.ofInt (0))))) (none)))
noncomputable def rw_125lllr : Nat → Option Op := fun n => cond (Nat.beq n 3) (some (oPush 125 4 (.int (Int32.ofInt (1))))) (cond (Nat.beq n 4) (some (oCall (runC 138) 125 7 1 3 0 3 hdN)) (cond (Nat.beq n 7) (some (oCmp1 125 10 42 .eq)) (none)))
noncomputable def rw_125lll : Nat → Option Op := fun n => cond (Nat.blt n 3) (rw_125llll n) (rw_125lllr n)
noncomputable def rw_125llrl : Nat → Option Op := fun n => cond (Nat.beq n 10) (some (oLoad 125 11 2 0)) (cond (Nat.beq n 11) (some (oPush 125 12 (.int (Int32.ofInt (0))))) (cond (Nat.beq n 12) (some (oPush 125 13 (.int (Int32.ofInt (3))))) (none)))
noncomputable def rw_125llrr : Nat → Option Op := fun n => cond (Nat.beq n 13) (some (oCall (runC 138) 125 16 1 3 0 3 hdN)) (cond (Nat.beq n 16) (some (oCmp1 125 19 42 .eq)) (cond (Nat.beq n 19) (some (oLoad 125 20 3 0)) (none)))
noncomputable def rw_125llr : Nat → Option Op := fun n => cond (Nat.blt n 13) (rw_125llrl n) (rw_125llrr n)
noncomputable def rw_125ll : Nat → Option Op := fun n => cond (Nat.blt n 10) (rw_125lll n) (rw_125llr n)
noncomputable def rw_125lrll : Nat → Option Op := fun n => cond (Nat.beq n 20) (some (oPush 125 21 (.int (Int32.ofInt (0))))) (cond (Nat.beq n 21) (some (oPush 125 22 (.int (Int32.ofInt (3))))) (cond (Nat.beq n 22) (some (oCall (runC 138) 125 25 1 3 0 3 hdN)) (none)))
noncomputable def rw_125lrlr : Nat → Option Op := fun n => cond (Nat.beq n 25) (some (oCmp1 125 28 42 .eq)) (cond (Nat.beq n 28) (some (oLoad 125 30 4 0)) (cond (Nat.beq n 30) (some (oPush 125 33 (.int (Int32.ofInt (-999))))) (none)))
noncomputable def rw_125lrl : Nat → Option Op := fun n => cond (Nat.blt n 25) (rw_125lrll n) (rw_125lrlr n)
noncomputable def rw_125lrrl : Nat → Option Op := fun n => cond (Nat.beq n 33) (some (oPush 125 36 (.int (Int32.ofInt (999))))) (cond (Nat.beq n 36) (some (oCall (runC 138) 125 39 1 3 0 3 hdN)) (cond (Nat.beq n 39) (some (oCmp1 125 42 46 .ne)) (none)))
noncomputable def rw_125lrrr : Nat → Option Op := fun n => cond (Nat.beq n 42) (some (oPush 125 43 (.int (Int32.ofInt (1))))) (cond (Nat.beq n 43) (some (oGoto 125 47)) (cond (Nat.beq n 46) (some (oPush 125 47 (.int (Int32.ofInt (0))))) (none)))
noncomputable def rw_125lrr : Nat → Option Op := fun n => cond (Nat.blt n 42) (rw_125lrrl n) (rw_125lrrr n)
noncomputable def rw_125lr : Nat → Option Op := fun n => cond (Nat.blt n 33) (rw_125lrl n) (rw_125lrr n)
noncomputable def rw_125l : Nat → Option Op := fun n => cond (Nat.blt n 20) (rw_125ll n) (rw_125lr n)
noncomputable def rw_125rlll : Nat → Option Op := fun n => cond (Nat.beq n 47) (some (oPush 125 48 (.int (Int32.ofInt (1))))) (cond (Nat.beq n 48) (some (oCall (runC 145) 125 51 2 3 2 3 hdN)) (cond (Nat.beq n 51) (some (oCmp1 125 54 56 .eq)) (none)))
noncomputable def rw_125rllr : Nat → Option Op := fun n => cond (Nat.beq n 54) (some (oPush 125 55 (.int (Int32.ofInt (0))))) (cond (Nat.beq n 55) (some (oRet .int 0)) (cond (Nat.beq n 56) (some (oLoad 125 57 0 4)) (none)))
noncomputable def rw_125rll : Nat → Option Op := fun n => cond (Nat.blt n 54) (rw_125rlll n) (rw_125rllr n)
noncomputable def rw_125rlrl : Nat → Option Op := fun n => cond (Nat.beq n 57) (some (oGet 125 60 2 7)) (cond (Nat.beq n 60) (some (oLoad 125 61 1 0)) (cond (Nat.beq n 61) (some (oAald 125 62)) (none)))
noncomputable def rw_125rlrr : Nat → Option Op := fun n => cond (Nat.beq n 62) (some (oLoad 125 63 2 0)) (cond (Nat.beq n 63) (some (oAald 125 64)) (cond (Nat.beq n 64) (some (oLoad 125 65 3 0)) (none)))
noncomputable def rw_125rlr : Nat → Option Op := fun n => cond (Nat.blt n 62) (rw_125rlrl n) (rw_125rlrr n)
noncomputable def rw_125rl : Nat → Option Op := fun n => cond (Nat.blt n 57) (rw_125rll n) (rw_125rlr n)
noncomputable def rw_125rrll : Nat → Option Op := fun n => cond (Nat.beq n 65) (some (oIald 125 66)) (cond (Nat.beq n 66) (some (oStore 125 68 5 0)) (cond (Nat.beq n 68) (some (oLoad 125 69 0 4)) (none)))
noncomputable def rw_125rrlr : Nat → Option Op := fun n => cond (Nat.beq n 69) (some (oGet 125 72 2 7)) (cond (Nat.beq n 72) (some (oLoad 125 73 1 0)) (cond (Nat.beq n 73) (some (oAald 125 74)) (none)))
noncomputable def rw_125rrl : Nat → Option Op := fun n => cond (Nat.blt n 69) (rw_125rrll n) (rw_125rrlr n)
noncomputable def rw_125rrrl : Nat → Option Op := fun n => cond (Nat.beq n 74) (some (oLoad 125 75 2 0)) (cond (Nat.beq n 75) (some (oAald 125 76)) (cond (Nat.beq n 76) (some (oLoad 125 77 3 0)) (none)))
noncomputable def rw_125rrrr : Nat → Option Op := fun n => cond (Nat.beq n 77) (some (oLoad 125 79 4 0)) (cond (Nat.beq n 79) (some (oIast 125 80)) (cond (Nat.beq n 80) (some (oLoad 125 82 5 0)) (cond (Nat.beq n 82) (some (oRet .int 0)) (none))))
noncomputable def rw_125rrr : Nat → Option Op := fun n => cond (Nat.blt n 77) (rw_125rrrl n) (rw_125rrrr n)
noncomputable def rw_125rr : Nat → Option Op := fun n => cond (Nat.blt n 74) (rw_125rrl n) (rw_125rrr n)
noncomputable def rw_125r : Nat → Option Op := fun n => cond (Nat.blt n 65) (rw_125rl n) (rw_125rr n)
noncomputable def rw_125 : Nat → Option Op := fun n => cond (Nat.blt n 47) (rw_125l n) (rw_125r n)
noncomputable def rw_126ll : Nat → Option Op := fun n => cond (Nat.beq n 0) (some (oLoad 126 1 0 4)) (cond (Nat.beq n 1) (some (oLoad 126 2 0 4)) (cond (Nat.beq n 2) (some (oLoad 126 3 1 0)) (none)))
noncomputable def rw_126lr : Nat → Option Op := fun n => cond (Nat.beq n 3) (some (oCall (runC 141) 126 6 2 2 2 2 hdN)) (cond (Nat.beq n 6) (some (oCmp1 126 9 13 .ne)) (cond (Nat.beq n 9) (some (oPush 126 10 (.int (Int32.ofInt (1))))) (none)))
noncomputable def rw_126l : Nat → Option Op := fun n => cond (Nat.blt n 3) (rw_126ll n) (rw_126lr n)
noncomputable def rw_126rl : Nat → Option Op := fun n => cond (Nat.beq n 10) (some (oGoto 126 14)) (cond (Nat.beq n 14) (some (oPush 126 15 (.int (Int32.ofInt (1))))) (cond (Nat.beq n 15) (some (oCall (runC 145) 126 18 2 3 2 3 hdN)) (none)))
noncomputable def rw_126rr : Nat → Option Op := fun n => cond (Nat.beq n 18) (some (oCmp1 126 21 23 .eq)) (cond (Nat.beq n 21) (some (oPush 126 22 (.int (Int32.ofInt (0))))) (cond (Nat.beq n 22) (some (oRet .int 0)) (none)))
noncomputable def rw_126r : Nat → Option Op := fun n => cond (Nat.blt n 18) (rw_126rl n) (rw_126rr n)
noncomputable def rw_126 : Nat → Option Op := fun n => cond (Nat.blt n 10) (rw_126l n) (rw_126r n)
noncomputable def rw_127ll : Nat → Option Op := fun n => cond (Nat.beq n 0) (some (oLoad 127 1 0 4)) (cond (Nat.beq n 1) (some (oLoad 127 2 0 4)) (cond (Nat.beq n 2) (some (oLoad 127 3 1 0)) (none)))
noncomputable def rw_127lr : Nat → Option Op := fun n => cond (Nat.beq n 3) (some (oCall (runC 141) 127 6 2 2 2 2 hdN)) (cond (Nat.beq n 6) (some (oCmp1 127 9 17 .eq)) (cond (Nat.beq n 17) (some (oPush 127 18 (.int (Int32.ofInt (1))))) (none)))
noncomputable def rw_127l : Nat → Option Op := fun n => cond (Nat.blt n 3) (rw_127ll n) (rw_127lr n)
noncomputable def rw_127rl : Nat → Option Op := fun n => cond (Nat.beq n 18) (some (oGoto 127 22)) (cond (Nat.beq n 22) (some (oPush 127 23 (.int (Int32.ofInt (1))))) (cond (Nat.beq n 23) (some (oCall (runC 145) 127 26 2 3 2 3 hdN)) (none)))
noncomputable def rw_127rr : Nat → Option Op := fun n => cond (Nat.beq n 26) (some (oCmp1 127 29 87 .ne)) (cond (Nat.beq n 87) (some (oPush 127 88 (.int (Int32.ofInt (0))))) (cond (Nat.beq n 88) (some (oRet .boolean 0)) (none)))
noncomputable def rw_127r : Nat → Option Op := fun n => cond (Nat.blt n 26) (rw_127rl n) (rw_127rr n)
noncomputable def rw_127 : Nat → Option Op := fun n => cond (Nat.blt n 18) (rw_127l n) (rw_127r n)
noncomputable def rw_128l : Nat → Option Op := fun n => cond (Nat.beq n 0) (some (oLoad 128 1 0 4)) (cond (Nat.beq n 1) (some (oLoad 128 2 1 0)) (cond (Nat.beq n 2) (some (oLoad 128 3 2 0)) (none)))
noncomputable def rw_128r : Nat → Option Op := fun n => cond (Nat.beq n 3) (some (oCall (runC 143) 128 6 2 3 2 3 hdN)) (cond (Nat.beq n 6) (some (oCmp1 128 9 11 .eq)) (cond (Nat.beq n 9) (some (oPush 128 10 (.int (Int32.ofInt (0))))) (cond (Nat.beq n 10) (some (oRet .int 0)) (none))))
noncomputable def rw_128 : Nat → Option Op := fun n => cond (Nat.blt n 3) (rw_128l n) (rw_128r n)
noncomputable def rw_129l : Nat → Option Op := fun n => cond (Nat.beq n 0) (some (oLoad 129 1 0 4)) (cond (Nat.beq n 1) (some (oLoad 129 2 1 0)) (cond (Nat.beq n 2) (some (oLoad 129 3 2 0)) (cond (Nat.beq n 3) (some (oCall (runC 143) 129 6 2 3 2 3 hdN)) (none))))
noncomputable def rw_129r : Nat → Option Op := fun n => cond (Nat.beq n 6) (some (oCmp1 129 9 13 .eq)) (cond (Nat.beq n 9) (some (oPush 129 10 (.int (Int32.ofInt (0))))) (cond (Nat.beq n 10) (some (oGoto 129 37)) (cond (Nat.beq n 37) (some (oRet .int 0)) (none))))
noncomputable def rw_129 : Nat → Option Op := fun n => cond (Nat.blt n 6) (rw_129l n) (rw_129r n)
noncomputable def rw_130ll : Nat → Option Op := fun n => cond (Nat.beq n 0) (some (oLoad 130 1 0 4)) (cond (Nat.beq n 1) (some (oLoad 130 2 0 4)) (cond (Nat.beq n 2) (some (oLoad 130 3 1 0)) (none)))
noncomputable def rw_130lr : Nat → Option Op := fun n => cond (Nat.beq n 3) (some (oCall (runC 141) 130 6 2 2 2 2 hdN)) (cond (Nat.beq n 6) (some (oCmp1 130 9 17 .eq)) (cond (Nat.beq n 17) (some (oPush 130 18 (.int (Int32.ofInt (1))))) (none)))
noncomputable def rw_130l : Nat → Option Op := fun n => cond (Nat.blt n 3) (rw_130ll n) (rw_130lr n)
noncomputable def rw_130rl : Nat → Option Op := fun n => cond (Nat.beq n 18) (some (oGoto 130 22)) (cond (Nat.beq n 22) (some (oPush 130 23 (.int (Int32.ofInt (1))))) (cond (Nat.beq n 23) (some (oCall (runC 145) 130 26 2 3 2 3 hdN)) (none)))
noncomputable def rw_130rr : Nat → Option Op := fun n => cond (Nat.beq n 26) (some (oCmp1 130 29 31 .eq)) (cond (Nat.beq n 29) (some (oPush 130 30 (.int (Int32.ofInt (0))))) (cond (Nat.beq n 30) (some (oRet .int 0)) (none)))
noncomputable def rw_130r : Nat → Option Op := fun n => cond (Nat.blt n 26) (rw_130rl n) (rw_130rr n)
noncomputable def rw_130 : Nat → Option Op := fun n => cond (Nat.blt n 18) (rw_130l n) (rw_130r n)
noncomputable def rw_131ll : Nat → Option Op := fun n => cond (Nat.beq n 0) (some (oLoad 131 1 0 4)) (cond (Nat.beq n 1) (some (oLoad 131 2 0 4)) (cond (Nat.beq n 2) (some (oLoad 131 3 1 0)) (none)))
noncomputable def rw_131lr : Nat → Option Op := fun n => cond (Nat.beq n 3) (some (oCall (runC 141) 131 6 2 2 2 2 hdN)) (cond (Nat.beq n 6) (some (oCmp1 131 9 13 .ne)) (cond (Nat.beq n 9) (some (oPush 131 10 (.int (Int32.ofInt (1))))) (none)))
noncomputable def rw_131l : Nat → Option Op := fun n => cond (Nat.blt n 3) (rw_131ll n) (rw_131lr n)
noncomputable def rw_131rl : Nat → Option Op := fun n => cond (Nat.beq n 10) (some (oGoto 131 14)) (cond (Nat.beq n 14) (some (oPush 131 15 (.int (Int32.ofInt (1))))) (cond (Nat.beq n 15) (some (oCall (runC 145) 131 18 2 3 2 3 hdN)) (none)))
noncomputable def rw_131rr : Nat → Option Op := fun n => cond (Nat.beq n 18) (some (oCmp1 131 21 65 .ne)) (cond (Nat.beq n 65) (some (oPush 131 66 (.int (Int32.ofInt (0))))) (cond (Nat.beq n 66) (some (oRet .int 0)) (none)))
noncomputable def rw_131r : Nat → Option Op := fun n => cond (Nat.blt n 18) (rw_131rl n) (rw_131rr n)
noncomputable def rw_131 : Nat → Option Op := fun n => cond (Nat.blt n 10) (rw_131l n) (rw_131r n)
noncomputable def rw_132ll : Nat → Option Op := fun n => cond (Nat.beq n 0) (some (oLoad 132 1 0 4)) (cond (Nat.beq n 1) (some (oLoad 132 2 0 4)) (cond (Nat.beq n 2) (some (oGet 132 5 2 16)) (none)))
noncomputable def rw_132lr : Nat → Option Op := fun n => cond (Nat.beq n 5) (some (oCmp1 132 8 12 .ne)) (cond (Nat.beq n 8) (some (oPush 132 9 (.int (Int32.ofInt (1))))) (cond (Nat.beq n 9) (some (oGoto 132 13)) (none)))
noncomputable def rw_132l : Nat → Option Op := fun n => cond (Nat.blt n 5) (rw_132ll n) (rw_132lr n)
noncomputable def rw_132rl : Nat → Option Op := fun n => cond (Nat.beq n 13) (some (oPush 132 14 (.int (Int32.ofInt (1))))) (cond (Nat.beq n 14) (some (oCall (runC 145) 132 17 2 3 2 3 hdN)) (cond (Nat.beq n 17) (some (oCmp1 132 20 24 .eq)) (none)))
noncomputable def rw_132rr : Nat → Option Op := fun n => cond (Nat.beq n 20) (some (oPush 132 21 (.int (Int32.ofInt (0))))) (cond (Nat.beq n 21) (some (oGoto 132 29)) (cond (Nat.beq n 29) (some (oRet .int 0)) (none)))
noncomputable def rw_132r : Nat → Option Op := fun n => cond (Nat.blt n 20) (rw_132rl n) (rw_132rr n)
noncomputable def rw_132 : Nat → Option Op := fun n => cond (Nat.blt n 13) (rw_132l n) (rw_132r n)
noncomputable def rw_133llll : Nat → Option Op := fun n => cond (Nat.beq n 0) (some (oLoad 133 1 2 0)) (cond (Nat.beq n 1) (some (oPush 133 3 (.int (Int32.ofInt (98))))) (cond (Nat.beq n 3) (some (oCmp2 133 6 12 .eq)) (none)))
noncomputable def rw_133lllr : Nat → Option Op := fun n => cond (Nat.beq n 6) (some (oLoad 133 7 2 0)) (cond (Nat.beq n 7) (some (oPush 133 9 (.int (Int32.ofInt (118))))) (cond (Nat.beq n 9) (some (oCmp2 133 12 16 .ne)) (cond (Nat.beq n 12) (some (oPush 133 13 (.int (Int32.ofInt (1))))) (none))))
noncomputable def rw_133lll : Nat → Option Op := fun n => cond (Nat.blt n 6) (rw_133llll n) (rw_133lllr n)
noncomputable def rw_133llrl : Nat → Option Op := fun n => cond (Nat.beq n 13) (some (oGoto 133 17)) (cond (Nat.beq n 16) (some (oPush 133 17 (.int (Int32.ofInt (0))))) (cond (Nat.beq n 17) (some (oStore 133 19 5 0)) (none)))
noncomputable def rw_133llrr : Nat → Option Op := fun n => cond (Nat.beq n 19) (some (oLoad 133 21 5 0)) (cond (Nat.beq n 21) (some (oCmp1 133 24 54 .ne)) (cond (Nat.beq n 24) (some (oLoad 133 25 2 0)) (cond (Nat.beq n 25) (some (oPush 133 27 (.int (Int32.ofInt (97))))) (none))))
noncomputable def rw_133llr : Nat → Option Op := fun n => cond (Nat.blt n 19) (rw_133llrl n) (rw_133llrr n)
noncomputable def rw_133ll : Nat → Option Op := fun n => cond (Nat.blt n 13) (rw_133lll n) (rw_133llr n)
noncomputable def rw_133lrll : Nat → Option Op := fun n => cond (Nat.beq n 27) (some (oCmp2 133 30 54 .eq)) (cond (Nat.beq n 30) (some (oLoad 133 31 2 0)) (cond (Nat.beq n 31) (some (oPush 133 33 (.int (Int32.ofInt (111))))) (none)))
noncomputable def rw_133lrlr : Nat → Option Op := fun n => cond (Nat.beq n 33) (some (oCmp2 133 36 54 .eq)) (cond (Nat.beq n 36) (some (oLoad 133 37 2 0)) (cond (Nat.beq n 37) (some (oPush 133 39 (.int (Int32.ofInt (120))))) (cond (Nat.beq n 39) (some (oCmp2 133 42 54 .eq)) (none))))
noncomputable def rw_133lrl : Nat → Option Op := fun n => cond (Nat.blt n 33) (rw_133lrll n) (rw_133lrlr n)
noncomputable def rw_133lrrl : Nat → Option Op := fun n => cond (Nat.beq n 42) (some (oLoad 133 43 2 0)) (cond (Nat.beq n 43) (some (oPush 133 45 (.int (Int32.ofInt (110))))) (cond (Nat.beq n 45) (some (oCmp2 133 48 54 .eq)) (none)))
noncomputable def rw_133lrrr : Nat → Option Op := fun n => cond (Nat.beq n 48) (some (oLoad 133 49 2 0)) (cond (Nat.beq n 49) (some (oPush 133 51 (.int (Int32.ofInt (114))))) (cond (Nat.beq n 51) (some (oCmp2 133 54 58 .ne)) (cond (Nat.beq n 54) (some (oPush 133 55 (.int (Int32.ofInt (1))))) (none))))
noncomputable def rw_133lrr : Nat → Option Op := fun n => cond (Nat.blt n 48) (rw_133lrrl n) (rw_133lrrr n)
noncomputable def rw_133lr : Nat → Option Op := fun n => cond (Nat.blt n 42) (rw_133lrl n) (rw_133lrr n)
noncomputable def rw_133l : Nat → Option Op := fun n => cond (Nat.blt n 27) (rw_133ll n) (rw_133lr n)
noncomputable def rw_133rlll : Nat → Option Op := fun n => cond (Nat.beq n 55) (some (oGoto 133 59)) (cond (Nat.beq n 58) (some (oPush 133 59 (.int (Int32.ofInt (0))))) (cond (Nat.beq n 59) (some (oStore 133 61 6 0)) (none)))
noncomputable def rw_133rllr : Nat → Option Op := fun n => cond (Nat.beq n 61) (some (oLoad 133 62 0 4)) (cond (Nat.beq n 62) (some (oLoad 133 63 1 0)) (cond (Nat.beq n 63) (some (oPush 133 64 (.int (Int32.ofInt (0))))) (cond (Nat.beq n 64) (some (oPush 133 65 (.int (Int32.ofInt (1))))) (none))))
noncomputable def rw_133rll : Nat → Option Op := fun n => cond (Nat.blt n 61) (rw_133rlll n) (rw_133rllr n)
noncomputable def rw_133rlrl : Nat → Option Op := fun n => cond (Nat.beq n 65) (some (oCall (runC 138) 133 68 1 3 0 3 hdN)) (cond (Nat.beq n 68) (some (oCmp1 133 71 76 .eq)) (cond (Nat.beq n 71) (some (oLoad 133 73 6 0)) (none)))
noncomputable def rw_133rlrr : Nat → Option Op := fun n => cond (Nat.beq n 73) (some (oCmp1 133 76 80 .ne)) (cond (Nat.beq n 76) (some (oPush 133 77 (.int (Int32.ofInt (1))))) (cond (Nat.beq n 77) (some (oGoto 133 81)) (cond (Nat.beq n 80) (some (oPush 133 81 (.int (Int32.ofInt (0))))) (none))))
noncomputable def rw_133rlr : Nat → Option Op := fun n => cond (Nat.blt n 73) (rw_133rlrl n) (rw_133rlrr n)
noncomputable def rw_133rl : Nat → Option Op := fun n => cond (Nat.blt n 65) (rw_133rll n) (rw_133rlr n)
noncomputable def rw_133rrll : Nat → Option Op := fun n => cond (Nat.beq n 81) (some (oPush 133 82 (.int (Int32.ofInt (1))))) (cond (Nat.beq n 82) (some (oCall (runC 145) 133 85 2 3 2 3 hdN)) (cond (Nat.beq n 85) (some (oCmp1 133 88 123 .ne)) (none)))
noncomputable def rw_133rrlr : Nat → Option Op := fun n => cond (Nat.beq n 88) (some (oLoad 133 89 0 4)) (cond (Nat.beq n 89) (some (oLoad 133 90 0 4)) (cond (Nat.beq n 90) (some (oLoad 133 91 3 0)) (cond (Nat.beq n 91) (some (oCall (runC 141) 133 94 2 2 2 2 hdN)) (none))))
noncomputable def rw_133rrl : Nat → Option Op := fun n => cond (Nat.blt n 88) (rw_133rrll n) (rw_133rrlr n)
noncomputable def rw_133rrrl : Nat → Option Op := fun n => cond (Nat.beq n 94) (some (oCmp1 133 97 111 .eq)) (cond (Nat.beq n 111) (some (oPush 133 112 (.int (Int32.ofInt (1))))) (cond (Nat.beq n 112) (some (oGoto 133 116)) (cond (Nat.beq n 116) (some (oPush 133 117 (.int (Int32.ofInt (2))))) (none))))
noncomputable def rw_133rrrr : Nat → Option Op := fun n => cond (Nat.beq n 117) (some (oCall (runC 145) 133 120 2 3 2 3 hdN)) (cond (Nat.beq n 120) (some (oCmp1 133 123 125 .eq)) (cond (Nat.beq n 123) (some (oPush 133 124 (.int (Int32.ofInt (0))))) (cond (Nat.beq n 124) (some (oRet .int 0)) (none))))
noncomputable def rw_133rrr : Nat → Option Op := fun n => cond (Nat.blt n 117) (rw_133rrrl n) (rw_133rrrr n)
noncomputable def rw_133rr : Nat → Option Op := fun n => cond (Nat.blt n 94) (rw_133rrl n) (rw_133rrr n)
noncomputable def rw_133r : Nat → Option Op := fun n => cond (Nat.blt n 81) (rw_133rl n) (rw_133rr n)
noncomputable def rw_133 : Nat → Option Op := fun n => cond (Nat.blt n 55) (rw_133l n) (rw_133r n)
noncomputable def rw_134lll : Nat → Option Op := fun n => cond (Nat.beq n 0) (some (oLoad 134 1 0 4)) (cond (Nat.beq n 1) (some (oLoad 134 2 0 4)) (cond (Nat.beq n 2) (some (oGet 134 5 2 16)) (cond (Nat.beq n 5) (some (oPush 134 6 (.int (Int32.ofInt (1))))) (none))))
noncomputable def rw_134llrl : Nat → Option Op := fun n => cond (Nat.beq n 6) (some (oCall (runC 145) 134 9 2 3 2 3 hdN)) (cond (Nat.beq n 9) (some (oCmp1 134 12 46 .ne)) (none))
noncomputable def rw_134llrr : Nat → Option Op := fun n => cond (Nat.beq n 12) (some (oLoad 134 13 0 4)) (cond (Nat.beq n 13) (some (oLoad 134 14 0 4)) (cond (Nat.beq n 14) (some (oGet 134 17 2 0)) (none)))
noncomputable def rw_134llr : Nat → Option Op := fun n => cond (Nat.blt n 12) (rw_134llrl n) (rw_134llrr n)
noncomputable def rw_134ll : Nat → Option Op := fun n => cond (Nat.blt n 6) (rw_134lll n) (rw_134llr n)
noncomputable def rw_134lrl : Nat → Option Op := fun n => cond (Nat.beq n 17) (some (oCall (runC 189) 134 20 2 1 4 1 hdN)) (cond (Nat.beq n 20) (some (oPush 134 22 (.int (Int32.ofInt (80))))) (cond (Nat.beq n 22) (some (oCmp2 134 25 34 .eq)) (cond (Nat.beq n 25) (some (oLoad 134 26 0 4)) (none))))
noncomputable def rw_134lrrl : Nat → Option Op := fun n => cond (Nat.beq n 26) (some (oCall (runC 135) 134 29 2 1 2 4 hdN)) (cond (Nat.beq n 29) (some (oPush 134 31 (.int (Int32.ofInt (6))))) (none))
noncomputable def rw_134lrrr : Nat → Option Op := fun n => cond (Nat.beq n 31) (some (oCmp2 134 34 38 .ne)) (cond (Nat.beq n 38) (some (oPush 134 39 (.int (Int32.ofInt (0))))) (cond (Nat.beq n 39) (some (oPush 134 40 (.int (Int32.ofInt (2))))) (none)))
noncomputable def rw_134lrr : Nat → Option Op := fun n => cond (Nat.blt n 31) (rw_134lrrl n) (rw_134lrrr n)
noncomputable def rw_134lr : Nat → Option Op := fun n => cond (Nat.blt n 26) (rw_134lrl n) (rw_134lrr n)
noncomputable def rw_134l : Nat → Option Op := fun n => cond (Nat.blt n 17) (rw_134ll n) (rw_134lr n)
noncomputable def rw_134rll : Nat → Option Op := fun n => cond (Nat.beq n 40) (some (oCall (runC 145) 134 43 2 3 2 3 hdN)) (cond (Nat.beq n 43) (some (oCmp1 134 46 48 .eq)) (cond (Nat.beq n 48) (some (oLoad 134 49 0 4)) (cond (Nat.beq n 49) (some (oNew 134 52 3 14 [.int 0, .int 0, .int 0, .int 0, .int 0, .null, .null, .int 0, .null, .null, .int 0, .int 0, .int 0, .long 0])) (none))))
noncomputable def rw_134rlrl : Nat → Option Op := fun n => cond (Nat.beq n 52) (some (oDup 134 53)) (cond (Nat.beq n 53) (some (oLoad 134 54 0 4)) (none))
noncomputable def rw_134rlrr : Nat → Option Op := fun n => cond (Nat.beq n 54) (some (oGet 134 57 2 0)) (cond (Nat.beq n 57) (some (oCall (runC 189) 134 60 2 1 4 1 hdN)) (cond (Nat.beq n 60) (some (oPush 134 61 (.int (Int32.ofInt (2))))) (none)))
noncomputable def rw_134rlr : Nat → Option Op := fun n => cond (Nat.blt n 54) (rw_134rlrl n) (rw_134rlrr n)
noncomputable def rw_134rl : Nat → Option Op := fun n => cond (Nat.blt n 52) (rw_134rll n) (rw_134rlr n)
noncomputable def rw_134rrl : Nat → Option Op := fun n => cond (Nat.beq n 61) (some (oPush 134 63 (.int (Int32.ofInt (105))))) (cond (Nat.beq n 63) (some (oPush 134 64 (.null))) (cond (Nat.beq n 64) (some (oPush 134 65 (.null))) (cond (Nat.beq n 65) (some (oPush 134 66 (.int (Int32.ofInt (0))))) (none))))
noncomputable def rw_134rrrl : Nat → Option Op := fun n => cond (Nat.beq n 66) (some (oPush 134 67 (.int (Int32.ofInt (-1))))) (cond (Nat.beq n 67) (some (oCall (runC 176) 134 70 3 8 0 8 hdN)) (none))
noncomputable def rw_134rrrr : Nat → Option Op := fun n => cond (Nat.beq n 70) (some (oCall (runC 116) 134 73 2 2 2 2 hdN)) (cond (Nat.beq n 73) (some (oGet 134 76 3 0)) (cond (Nat.beq n 76) (some (oRet .int 0)) (none)))
noncomputable def rw_134rrr : Nat → Option Op := fun n => cond (Nat.blt n 70) (rw_134rrrl n) (rw_134rrrr n)
noncomputable def rw_134rr : Nat → Option Op := fun n => cond (Nat.blt n 66) (rw_134rrl n) (rw_134rrr n)
noncomputable def rw_134r : Nat → Option Op := fun n => cond (Nat.blt n 61) (rw_134rl n) (rw_134rr n)
noncomputable def rw_134 : Nat → Option Op := fun n => cond (Nat.blt n 40) (rw_134l n) (rw_134r n)
noncomputable def rw_135ll : Nat → Option Op := fun n => cond (Nat.beq n 0) (some (oPush 135 1 (.int (Int32.ofInt (0))))) (cond (Nat.beq n 1) (some (oStore 135 2 1 0)) (none))
noncomputable def rw_135lr : Nat → Option Op := fun n => cond (Nat.beq n 2) (some (oLoad 135 3 0 4)) (cond (Nat.beq n 3) (some (oGet 135 6 2 0)) (cond (Nat.beq n 6) (some (oCall (runC 188) 135 9 2 1 4 1 hdN)) (none)))
noncomputable def rw_135l : Nat → Option Op := fun n => cond (Nat.blt n 2) (rw_135ll n) (rw_135lr n)
noncomputable def rw_135rl : Nat → Option Op := fun n => cond (Nat.beq n 9) (some (oStore 135 10 2 4)) (cond (Nat.beq n 10) (some (oLoad 135 11 2 4)) (cond (Nat.beq n 11) (some (oCall (runC 191) 135 16 5 1 5 1 hdN)) (none)))
noncomputable def rw_135rr : Nat → Option Op := fun n => cond (Nat.beq n 16) (some (oCmp1 135 19 49 .eq)) (cond (Nat.beq n 49) (some (oLoad 135 50 1 0)) (cond (Nat.beq n 50) (some (oRet .int 0)) (none)))
noncomputable def rw_135r : Nat → Option Op := fun n => cond (Nat.blt n 16) (rw_135rl n) (rw_135rr n)
noncomputable def rw_135 : Nat → Option Op := fun n => cond (Nat.blt n 9) (rw_135l n) (rw_135r n)
noncomputable def rw_136ll : Nat → Option Op := fun n => cond (Nat.beq n 0) (some (oPush 136 1 (.int (Int32.ofInt (0))))) (cond (Nat.beq n 1) (some (oStore 136 2 2 0)) (cond (Nat.beq n 2) (some (oLoad 136 3 0 4)) (cond (Nat.beq n 3) (some (oGet 136 6 2 0)) (none))))
noncomputable def rw_136lrl : Nat → Option Op := fun n => cond (Nat.beq n 6) (some (oCall (runC 188) 136 9 2 1 4 1 hdN)) (cond (Nat.beq n 9) (some (oStore 136 10 3 4)) (none))
noncomputable def rw_136lrr : Nat → Option Op := fun n => cond (Nat.beq n 10) (some (oLoad 136 11 3 4)) (cond (Nat.beq n 11) (some (oCall (runC 191) 136 16 5 1 5 1 hdN)) (cond (Nat.beq n 16) (some (oCmp1 136 19 49 .eq)) (none)))
noncomputable def rw_136lr : Nat → Option Op := fun n => cond (Nat.blt n 10) (rw_136lrl n) (rw_136lrr n)
noncomputable def rw_136l : Nat → Option Op := fun n => cond (Nat.blt n 6) (rw_136ll n) (rw_136lr n)
noncomputable def rw_136rl : Nat → Option Op := fun n => cond (Nat.beq n 49) (some (oLoad 136 50 1 0)) (cond (Nat.beq n 50) (some (oPush 136 51 (.int (Int32.ofInt (0))))) (cond (Nat.beq n 51) (some (oPush 136 52 (.int (Int32.ofInt (1))))) (cond (Nat.beq n 52) (some (oLoad 136 53 2 0)) (none))))
noncomputable def rw_136rrl : Nat → Option Op := fun n => cond (Nat.beq n 53) (some (oBin sdv 136 54 6)) (cond (Nat.beq n 54) (some (oPush 136 55 (.int (Int32.ofInt (1))))) (none))
noncomputable def rw_136rrr : Nat → Option Op := fun n => cond (Nat.beq n 55) (some (oBin sdv 136 56 1)) (cond (Nat.beq n 56) (some (oCall (runC 138) 136 59 1 3 0 3 hdN)) (cond (Nat.beq n 59) (some (oRet .boolean 0)) (none)))
noncomputable def rw_136rr : Nat → Option Op := fun n => cond (Nat.blt n 55) (rw_136rrl n) (rw_136rrr n)
noncomputable def rw_136r : Nat → Option Op := fun n => cond (Nat.blt n 53) (rw_136rl n) (rw_136rr n)
noncomputable def rw_136 : Nat → Option Op := fun n => cond (Nat.blt n 49) (rw_136l n) (rw_136r n)
noncomputable def rw_137l : Nat → Option Op := fun n => cond (Nat.beq n 0) (some (oLoad 137 1 0 4)) (cond (Nat.beq n 1) (some (oLoad 137 2 1 0)) (cond (Nat.beq n 2) (some (oCall (runC 142) 137 5 2 2 2 2 hdN)) (none)))
noncomputable def rw_137r : Nat → Option Op := fun n => cond (Nat.beq n 5) (some (oCmp1 137 8 30 .ne)) (cond (Nat.beq n 30) (some (oPush 137 31 (.int (Int32.ofInt (0))))) (cond (Nat.beq n 31) (some (oRet .boolean 0)) (none)))
noncomputable def rw_137 : Nat → Option Op := fun n => cond (Nat.blt n 5) (rw_137l n) (rw_137r n)
noncomputable def rw_138ll : Nat → Option Op := fun n => cond (Nat.beq n 0) (some (oLoad 138 1 0 0)) (cond (Nat.beq n 1) (some (oLoad 138 2 1 0)) (none))
noncomputable def rw_138lr : Nat → Option Op := fun n => cond (Nat.beq n 2) (some (oCmp2 138 5 14 .lt)) (cond (Nat.beq n 5) (some (oLoad 138 6 0 0)) (cond (Nat.beq n 6) (some (oLoad 138 7 2 0)) (none)))
noncomputable def rw_138l : Nat → Option Op := fun n => cond (Nat.blt n 2) (rw_138ll n) (rw_138lr n)
noncomputable def rw_138rl : Nat → Option Op := fun n => cond (Nat.beq n 7) (some (oCmp2 138 10 14 .gt)) (cond (Nat.beq n 10) (some (oPush 138 11 (.int (Int32.ofInt (1))))) (none))
noncomputable def rw_138rr : Nat → Option Op := fun n => cond (Nat.beq n 11) (some (oGoto 138 15)) (cond (Nat.beq n 14) (some (oPush 138 15 (.int (Int32.ofInt (0))))) (cond (Nat.beq n 15) (some (oRet .boolean 0)) (none)))
noncomputable def rw_138r : Nat → Option Op := fun n => cond (Nat.blt n 11) (rw_138rl n) (rw_138rr n)
noncomputable def rw_138 : Nat → Option Op := fun n => cond (Nat.blt n 7) (rw_138l n) (rw_138r n)
noncomputable def rw_139lll : Nat → Option Op := fun n => cond (Nat.beq n 0) (some (oLoad 139 1 0 4)) (cond (Nat.beq n 1) (some (oLoad 139 2 1 0)) (none))
noncomputable def rw_139llr : Nat → Option Op := fun n => cond (Nat.beq n 2) (some (oPush 139 3 (.int (Int32.ofInt (0))))) (cond (Nat.beq n 3) (some (oPush 139 5 (.int (Int32.ofInt (20))))) (cond (Nat.beq n 5) (some (oCall (runC 138) 139 8 1 3 0 3 hdN)) (none)))
noncomputable def rw_139ll : Nat → Option Op := fun n => cond (Nat.blt n 2) (rw_139lll n) (rw_139llr n)
noncomputable def rw_139lrl : Nat → Option Op := fun n => cond (Nat.beq n 8) (some (oCmp1 139 11 15 .ne)) (cond (Nat.beq n 11) (some (oPush 139 12 (.int (Int32.ofInt (1))))) (cond (Nat.beq n 12) (some (oGoto 139 16)) (none)))
noncomputable def rw_139lrr : Nat → Option Op := fun n => cond (Nat.beq n 15) (some (oPush 139 16 (.int (Int32.ofInt (0))))) (cond (Nat.beq n 16) (some (oPush 139 17 (.int (Int32.ofInt (1))))) (cond (Nat.beq n 17) (some (oCall (runC 145) 139 20 2 3 2 3 hdN)) (none)))
noncomputable def rw_139lr : Nat → Option Op := fun n => cond (Nat.blt n 15) (rw_139lrl n) (rw_139lrr n)
noncomputable def rw_139l : Nat → Option Op := fun n => cond (Nat.blt n 8) (rw_139ll n) (rw_139lr n)
noncomputable def rw_139rll : Nat → Option Op := fun n => cond (Nat.beq n 20) (some (oCmp1 139 23 43 .ne)) (cond (Nat.beq n 23) (some (oLoad 139 24 0 4)) (cond (Nat.beq n 24) (some (oLoad 139 25 0 4)) (none)))
noncomputable def rw_139rlr : Nat → Option Op := fun n => cond (Nat.beq n 25) (some (oGet 139 28 2 16)) (cond (Nat.beq n 28) (some (oCmp1 139 31 35 .ne)) (cond (Nat.beq n 31) (some (oPush 139 32 (.int (Int32.ofInt (1))))) (none)))
noncomputable def rw_139rl : Nat → Option Op := fun n => cond (Nat.blt n 25) (rw_139rll n) (rw_139rlr n)
noncomputable def rw_139rrl : Nat → Option Op := fun n => cond (Nat.beq n 32) (some (oGoto 139 36)) (cond (Nat.beq n 36) (some (oPush 139 37 (.int (Int32.ofInt (2))))) (cond (Nat.beq n 37) (some (oCall (runC 145) 139 40 2 3 2 3 hdN)) (none)))
noncomputable def rw_139rrr : Nat → Option Op := fun n => cond (Nat.beq n 40) (some (oCmp1 139 43 45 .eq)) (cond (Nat.beq n 43) (some (oPush 139 44 (.int (Int32.ofInt (0))))) (cond (Nat.beq n 44) (some (oRet .boolean 0)) (none)))
noncomputable def rw_139rr : Nat → Option Op := fun n => cond (Nat.blt n 40) (rw_139rrl n) (rw_139rrr n)
noncomputable def rw_139r : Nat → Option Op := fun n => cond (Nat.blt n 32) (rw_139rl n) (rw_139rr n)
noncomputable def rw_139 : Nat → Option Op := fun n => cond (Nat.blt n 20) (rw_139l n) (rw_139r n)
noncomputable def rw_140l : Nat → Option Op := fun n => cond (Nat.beq n 0) (some (oLoad 140 1 0 4)) (cond (Nat.beq n 1) (some (oLoad 140 2 1 0)) (cond (Nat.beq n 2) (some (oCall (runC 142) 140 5 2 2 2 2 hdN)) (none)))
noncomputable def rw_140r : Nat → Option Op := fun n => cond (Nat.beq n 5) (some (oCmp1 140 8 10 .eq)) (cond (Nat.beq n 8) (some (oPush 140 9 (.int (Int32.ofInt (0))))) (cond (Nat.beq n 9) (some (oRet .boolean 0)) (none)))
noncomputable def rw_140 : Nat → Option Op := fun n => cond (Nat.blt n 5) (rw_140l n) (rw_140r n)
noncomputable def rw_141l : Nat → Option Op := fun n => cond (Nat.beq n 0) (some (oLoad 141 1 1 0)) (cond (Nat.beq n 1) (some (oPush 141 2 (.int (Int32.ofInt (0))))) (cond (Nat.beq n 2) (some (oLoad 141 3 0 4)) (cond (Nat.beq n 3) (some (oGet 141 6 2 0)) (none))))
noncomputable def rw_141rl : Nat → Option Op := fun n => cond (Nat.beq n 6) (some (oCall (runC 189) 141 9 2 1 4 1 hdN)) (cond (Nat.beq n 9) (some (oPush 141 10 (.int (Int32.ofInt (1))))) (none))
noncomputable def rw_141rr : Nat → Option Op := fun n => cond (Nat.beq n 10) (some (oBin sdv 141 11 1)) (cond (Nat.beq n 11) (some (oCall (runC 138) 141 14 1 3 0 3 hdN)) (cond (Nat.beq n 14) (some (oRet .boolean 0)) (none)))
noncomputable def rw_141r : Nat → Option Op := fun n => cond (Nat.blt n 10) (rw_141rl n) (rw_141rr n)
noncomputable def rw_141 : Nat → Option Op := fun n => cond (Nat.blt n 6) (rw_141l n) (rw_141r n)
noncomputable def rw_142ll : Nat → Option Op := fun n => cond (Nat.beq n 0) (some (oLoad 142 1 0 4)) (cond (Nat.beq n 1) (some (oLoad 142 2 0 4)) (cond (Nat.beq n 2) (some (oLoad 142 3 1 0)) (none)))
noncomputable def rw_142lr : Nat → Option Op := fun n => cond (Nat.beq n 3) (some (oCall (runC 141) 142 6 2 2 2 2 hdN)) (cond (Nat.beq n 6) (some (oCmp1 142 9 13 .ne)) (cond (Nat.beq n 9) (some (oPush 142 10 (.int (Int32.ofInt (1))))) (none)))
noncomputable def rw_142l : Nat → Option Op := fun n => cond (Nat.blt n 3) (rw_142ll n) (rw_142lr n)
noncomputable def rw_142rl : Nat → Option Op := fun n => cond (Nat.beq n 10) (some (oGoto 142 14)) (cond (Nat.beq n 14) (some (oPush 142 15 (.int (Int32.ofInt (1))))) (cond (Nat.beq n 15) (some (oCall (runC 145) 142 18 2 3 2 3 hdN)) (none)))
noncomputable def rw_142rr : Nat → Option Op := fun n => cond (Nat.beq n 18) (some (oCmp1 142 21 41 .ne)) (cond (Nat.beq n 41) (some (oPush 142 42 (.int (Int32.ofInt (1))))) (cond (Nat.beq n 42) (some (oGoto 142 46)) (cond (Nat.beq n 46) (some (oRet .boolean 0)) (none))))
noncomputable def rw_142r : Nat → Option Op := fun n => cond (Nat.blt n 18) (rw_142rl n) (rw_142rr n)
noncomputable def rw_142 : Nat → Option Op := fun n => cond (Nat.blt n 10) (rw_142l n) (rw_142r n)
noncomputable def rw_143ll : Nat → Option Op := fun n => cond (Nat.beq n 0) (some (oLoad 143 1 0 4)) (cond (Nat.beq n 1) (some (oLoad 143 2 0 4)) (cond (Nat.beq n 2) (some (oLoad 143 3 1 0)) (none)))
noncomputable def rw_143lr : Nat → Option Op := fun n => cond (Nat.beq n 3) (some (oCall (runC 141) 143 6 2 2 2 2 hdN)) (cond (Nat.beq n 6) (some (oCmp1 143 9 13 .ne)) (cond (Nat.beq n 9) (some (oPush 143 10 (.int (Int32.ofInt (1))))) (none)))
noncomputable def rw_143l : Nat → Option Op := fun n => cond (Nat.blt n 3) (rw_143ll n) (rw_143lr n)
noncomputable def rw_143rl : Nat → Option Op := fun n => cond (Nat.beq n 10) (some (oGoto 143 14)) (cond (Nat.beq n 14) (some (oPush 143 15 (.int (Int32.ofInt (1))))) (cond (Nat.beq n 15) (some (oCall (runC 145) 143 18 2 3 2 3 hdN)) (none)))
noncomputable def rw_143rr : Nat → Option Op := fun n => cond (Nat.beq n 18) (some (oCmp1 143 21 81 .ne)) (cond (Nat.beq n 81) (some (oPush 143 82 (.int (Int32.ofInt (1))))) (cond (Nat.beq n 82) (some (oGoto 143 86)) (cond (Nat.beq n 86) (some (oRet .boolean 0)) (none))))
noncomputable def rw_143r : Nat → Option Op := fun n => cond (Nat.blt n 18) (rw_143rl n) (rw_143rr n)
noncomputable def rw_143 : Nat → Option Op := fun n => cond (Nat.blt n 10) (rw_143l n) (rw_143r n)
noncomputable def rw_144l : Nat → Option Op := fun n => cond (Nat.beq n 0) (some (oLoad 144 1 0 4)) (cond (Nat.beq n 1) (some (oPush 144 2 (.int (Int32.ofInt (0))))) (none))
noncomputable def rw_144r : Nat → Option Op := fun n => cond (Nat.beq n 2) (some (oPut 144 5 2 15 .int)) (cond (Nat.beq n 5) (some (oPush 144 6 (.int (Int32.ofInt (1))))) (cond (Nat.beq n 6) (some (oRet .boolean 0)) (none)))
noncomputable def rw_144 : Nat → Option Op := fun n => cond (Nat.blt n 2) (rw_144l n) (rw_144r n)
noncomputable def rw_145l : Nat → Option Op := fun n => cond (Nat.beq n 0) (some (oLoad 145 1 0 4)) (cond (Nat.beq n 1) (some (oLoad 145 2 1 0)) (cond (Nat.beq n 2) (some (oCmp1 145 5 9 .eq)) (cond (Nat.beq n 5) (some (oLoad 145 6 2 0)) (none))))
noncomputable def rw_145rl : Nat → Option Op := fun n => cond (Nat.beq n 6) (some (oGoto 145 10)) (cond (Nat.beq n 9) (some (oPush 145 10 (.int (Int32.ofInt (0))))) (none))
noncomputable def rw_145rr : Nat → Option Op := fun n => cond (Nat.beq n 10) (some (oPut 145 13 2 15 .int)) (cond (Nat.beq n 13) (some (oLoad 145 14 1 0)) (cond (Nat.beq n 14) (some (oRet .boolean 0)) (none)))
noncomputable def rw_145r : Nat → Option Op := fun n => cond (Nat.blt n 10) (rw_145rl n) (rw_145rr n)
noncomputable def rw_145 : Nat → Option Op := fun n => cond (Nat.blt n 6) (rw_145l n) (rw_145r n)
noncomputable def rw_146l : Nat → Option Op := fun n => cond (Nat.beq n 0) (some (oLoad 146 1 0 4)) (cond (Nat.beq n 1) (some (oPush 146 2 (.int (Int32.ofInt (0))))) (cond (Nat.beq n 2) (some (oPut 146 5 2 15 .int)) (none)))
noncomputable def rw_146r : Nat → Option Op := fun n => cond (Nat.beq n 5) (some (oLoad 146 6 0 4)) (cond (Nat.beq n 6) (some (oGet 146 9 2 0)) (cond (Nat.beq n 9) (some (oCall (runC 189) 146 12 2 1 4 1 hdN)) (cond (Nat.beq n 12) (some (oRet .int 0)) (none))))
noncomputable def rw_146 : Nat → Option Op := fun n => cond (Nat.blt n 5) (rw_146l n) (rw_146r n)
noncomputable def rw_147l : Nat → Option Op := fun n => cond (Nat.beq n 0) (some (oLoad 147 1 0 4)) (cond (Nat.beq n 1) (some (oLoad 147 2 1 0)) (cond (Nat.beq n 2) (some (oCall (runC 142) 147 5 2 2 2 2 hdN)) (none)))
noncomputable def rw_147r : Nat → Option Op := fun n => cond (Nat.beq n 5) (some (oCmp1 147 8 12 .eq)) (cond (Nat.beq n 8) (some (oPush 147 9 (.int (Int32.ofInt (0))))) (cond (Nat.beq n 9) (some (oGoto 147 26)) (cond (Nat.beq n 26) (some (oRet .int 0)) (none))))
noncomputable def rw_147 : Nat → Option Op := fun n => cond (Nat.blt n 5) (rw_147l n) (rw_147r n)
noncomputable def rw_148ll : Nat → Option Op := fun n => cond (Nat.beq n 0) (some (oLoad 148 1 0 4)) (cond (Nat.beq n 1) (some (oLoad 148 2 0 4)) (none))
noncomputable def rw_148lr : Nat → Option Op := fun n => cond (Nat.beq n 2) (some (oGet 148 5 2 16)) (cond (Nat.beq n 5) (some (oCmp1 148 8 12 .ne)) (cond (Nat.beq n 8) (some (oPush 148 9 (.int (Int32.ofInt (1))))) (none)))
noncomputable def rw_148l : Nat → Option Op := fun n => cond (Nat.blt n 2) (rw_148ll n) (rw_148lr n)
noncomputable def rw_148rl : Nat → Option Op := fun n => cond (Nat.beq n 9) (some (oGoto 148 13)) (cond (Nat.beq n 13) (some (oPush 148 14 (.int (Int32.ofInt (1))))) (cond (Nat.beq n 14) (some (oCall (runC 145) 148 17 2 3 2 3 hdN)) (none)))
noncomputable def rw_148rr : Nat → Option Op := fun n => cond (Nat.beq n 17) (some (oCmp1 148 20 35 .ne)) (cond (Nat.beq n 35) (some (oPush 148 36 (.double 0))) (cond (Nat.beq n 36) (some (oRet .double 3)) (none)))
noncomputable def rw_148r : Nat → Option Op := fun n => cond (Nat.blt n 17) (rw_148rl n) (rw_148rr n)
noncomputable def rw_148 : Nat → Option Op := fun n => cond (Nat.blt n 9) (rw_148l n) (rw_148r n)
noncomputable def rw_149ll : Nat → Option Op := fun n => cond (Nat.beq n 0) (some (oLoad 149 1 0 4)) (cond (Nat.beq n 1) (some (oPush 149 2 (.int (Int32.ofInt (0))))) (cond (Nat.beq n 2) (some (oPut 149 5 2 15 .int)) (none)))
noncomputable def rw_149lr : Nat → Option Op := fun n => cond (Nat.beq n 5) (some (oPush 149 6 (.long (Int64.ofNat 0)))) (cond (Nat.beq n 6) (some (oStore 149 7 1 1)) (cond (Nat.beq n 7) (some (oLoad 149 8 0 4)) (cond (Nat.beq n 8) (some (oGet 149 11 2 0)) (none))))
noncomputable def rw_149l : Nat → Option Op := fun n => cond (Nat.blt n 5) (rw_149ll n) (rw_149lr n)
noncomputable def rw_149rl : Nat → Option Op := fun n => cond (Nat.beq n 11) (some (oCall (runC 188) 149 14 2 1 4 1 hdN)) (cond (Nat.beq n 14) (some (oStore 149 15 3 4)) (cond (Nat.beq n 15) (some (oLoad 149 16 3 4)) (none)))
noncomputable def rw_149rr : Nat → Option Op := fun n => cond (Nat.beq n 16) (some (oCall (runC 191) 149 21 5 1 5 1 hdN)) (cond (Nat.beq n 21) (some (oCmp1 149 24 46 .eq)) (cond (Nat.beq n 46) (some (oLoad 149 47 1 1)) (cond (Nat.beq n 47) (some (oRet .long 1)) (none))))
noncomputable def rw_149r : Nat → Option Op := fun n => cond (Nat.blt n 16) (rw_149rl n) (rw_149rr n)
noncomputable def rw_149 : Nat → Option Op := fun n => cond (Nat.blt n 11) (rw_149l n) (rw_149r n)
noncomputable def rw_150ll : Nat → Option Op := fun n => cond (Nat.beq n 0) (some (oLoad 150 1 0 4)) (cond (Nat.beq n 1) (some (oLoad 150 2 0 4)) (cond (Nat.beq n 2) (some (oLoad 150 3 1 0)) (none)))
noncomputable def rw_150lr : Nat → Option Op := fun n => cond (Nat.beq n 3) (some (oCall (runC 141) 150 6 2 2 2 2 hdN)) (cond (Nat.beq n 6) (some (oCmp1 150 9 13 .ne)) (cond (Nat.beq n 9) (some (oPush 150 10 (.int (Int32.ofInt (1))))) (none)))
noncomputable def rw_150l : Nat → Option Op := fun n => cond (Nat.blt n 3) (rw_150ll n) (rw_150lr n)
noncomputable def rw_150rl : Nat → Option Op := fun n => cond (Nat.beq n 10) (some (oGoto 150 14)) (cond (Nat.beq n 14) (some (oPush 150 15 (.int (Int32.ofInt (1))))) (cond (Nat.beq n 15) (some (oCall (runC 145) 150 18 2 3 2 3 hdN)) (none)))
noncomputable def rw_150rr : Nat → Option Op := fun n => cond (Nat.beq n 18) (some (oCmp1 150 21 23 .eq)) (cond (Nat.beq n 21) (some (oPush 150 22 (.int (Int32.ofInt (0))))) (cond (Nat.beq n 22) (some (oRet .int 0)) (none)))
noncomputable def rw_150r : Nat → Option Op := fun n => cond (Nat.blt n 18) (rw_150rl n) (rw_150rr n)
noncomputable def rw_150 : Nat → Option Op := fun n => cond (Nat.blt n 10) (rw_150l n) (rw_150r n)
noncomputable def rw_151ll : Nat → Option Op := fun n => cond (Nat.beq n 0) (some (oLoad 151 1 0 4)) (cond (Nat.beq n 1) (some (oLoad 151 2 0 4)) (none))
noncomputable def rw_151lr : Nat → Option Op := fun n => cond (Nat.beq n 2) (some (oGet 151 5 2 0)) (cond (Nat.beq n 5) (some (oCall (runC 187) 151 8 2 1 4 1 hdN)) (cond (Nat.beq n 8) (some (oPush 151 9 (.int (Int32.ofInt (1))))) (none)))
noncomputable def rw_151l : Nat → Option Op := fun n => cond (Nat.blt n 2) (rw_151ll n) (rw_151lr n)
noncomputable def rw_151rl : Nat → Option Op := fun n => cond (Nat.beq n 9) (some (oCall (runC 145) 151 12 2 3 2 3 hdN)) (cond (Nat.beq n 12) (some (oCmp1 151 15 19 .eq)) (none))
noncomputable def rw_151rr : Nat → Option Op := fun n => cond (Nat.beq n 15) (some (oPush 151 16 (.float 0))) (cond (Nat.beq n 16) (some (oGoto 151 33)) (cond (Nat.beq n 33) (some (oRet .float 2)) (none)))
noncomputable def rw_151r : Nat → Option Op := fun n => cond (Nat.blt n 15) (rw_151rl n) (rw_151rr n)
noncomputable def rw_151 : Nat → Option Op := fun n => cond (Nat.blt n 9) (rw_151l n) (rw_151r n)
noncomputable def rw_152ll : Nat → Option Op := fun n => cond (Nat.beq n 0) (some (oPush 152 1 (.null))) (cond (Nat.beq n 1) (some (oStore 152 2 3 4)) (none))
noncomputable def rw_152lr : Nat → Option Op := fun n => cond (Nat.beq n 2) (some (oLoad 152 3 0 4)) (cond (Nat.beq n 3) (some (oGet 152 6 2 0)) (cond (Nat.beq n 6) (some (oCall (runC 188) 152 9 2 1 4 1 hdN)) (none)))
noncomputable def rw_152l : Nat → Option Op := fun n => cond (Nat.blt n 2) (rw_152ll n) (rw_152lr n)
noncomputable def rw_152rl : Nat → Option Op := fun n => cond (Nat.beq n 9) (some (oStore 152 11 4 4)) (cond (Nat.beq n 11) (some (oLoad 152 13 4 4)) (cond (Nat.beq n 13) (some (oCall (runC 191) 152 18 5 1 5 1 hdN)) (none)))
noncomputable def rw_152rr : Nat → Option Op := fun n => cond (Nat.beq n 18) (some (oCmp1 152 21 71 .eq)) (cond (Nat.beq n 71) (some (oLoad 152 72 3 4)) (cond (Nat.beq n 72) (some (oRet (.object "MiterhouseModel$Line") 4)) (none)))
noncomputable def rw_152r : Nat → Option Op := fun n => cond (Nat.blt n 18) (rw_152rl n) (rw_152rr n)
noncomputable def rw_152 : Nat → Option Op := fun n => cond (Nat.blt n 9) (rw_152l n) (rw_152r n)
noncomputable def rw_153lll : Nat → Option Op := fun n => cond (Nat.beq n 0) (some (oLoad 153 1 1 0)) (cond (Nat.beq n 1) (some (oPush 153 2 (.int (Int32.ofInt (1))))) (cond (Nat.beq n 2) (some (oPush 153 3 (.int (Int32.ofInt (4))))) (cond (Nat.beq n 3) (some (oCall (runC 138) 153 6 1 3 0 3 hdN)) (none))))
noncomputable def rw_153llrl : Nat → Option Op := fun n => cond (Nat.beq n 6) (some (oCmp1 153 9 28 .eq)) (cond (Nat.beq n 9) (some (oLoad 153 10 2 0)) (none))
noncomputable def rw_153llrr : Nat → Option Op := fun n => cond (Nat.beq n 10) (some (oPush 153 11 (.int (Int32.ofInt (0))))) (cond (Nat.beq n 11) (some (oPush 153 12 (.int (Int32.ofInt (1))))) (cond (Nat.beq n 12) (some (oPush 153 13 (.int (Int32.ofInt (1))))) (none)))
noncomputable def rw_153llr : Nat → Option Op := fun n => cond (Nat.blt n 10) (rw_153llrl n) (rw_153llrr n)
noncomputable def rw_153ll : Nat → Option Op := fun n => cond (Nat.blt n 6) (rw_153lll n) (rw_153llr n)
noncomputable def rw_153lrll : Nat → Option Op := fun n => cond (Nat.beq n 13) (some (oLoad 153 14 1 0)) (cond (Nat.beq n 14) (some (oBin sdv 153 15 6)) (none))
noncomputable def rw_153lrlr : Nat → Option Op := fun n => cond (Nat.beq n 15) (some (oBin sdv 153 16 6)) (cond (Nat.beq n 16) (some (oPush 153 17 (.int (Int32.ofInt (1))))) (cond (Nat.beq n 17) (some (oBin sdv 153 18 1)) (none)))
noncomputable def rw_153lrl : Nat → Option Op := fun n => cond (Nat.blt n 15) (rw_153lrll n) (rw_153lrlr n)
noncomputable def rw_153lrrl : Nat → Option Op := fun n => cond (Nat.beq n 18) (some (oCall (runC 138) 153 21 1 3 0 3 hdN)) (cond (Nat.beq n 21) (some (oCmp1 153 24 28 .eq)) (none))
noncomputable def rw_153lrrr : Nat → Option Op := fun n => cond (Nat.beq n 24) (some (oPush 153 25 (.int (Int32.ofInt (1))))) (cond (Nat.beq n 25) (some (oGoto 153 29)) (cond (Nat.beq n 28) (some (oPush 153 29 (.int (Int32.ofInt (0))))) (none)))
noncomputable def rw_153lrr : Nat → Option Op := fun n => cond (Nat.blt n 24) (rw_153lrrl n) (rw_153lrrr n)
noncomputable def rw_153lr : Nat → Option Op := fun n => cond (Nat.blt n 18) (rw_153lrl n) (rw_153lrr n)
noncomputable def rw_153l : Nat → Option Op := fun n => cond (Nat.blt n 13) (rw_153ll n) (rw_153lr n)
noncomputable def rw_153rll : Nat → Option Op := fun n => cond (Nat.beq n 29) (some (oStore 153 30 3 0)) (cond (Nat.beq n 30) (some (oLoad 153 31 0 4)) (cond (Nat.beq n 31) (some (oLoad 153 32 3 0)) (cond (Nat.beq n 32) (some (oCmp1 153 35 39 .ne)) (none))))
noncomputable def rw_153rlrl : Nat → Option Op := fun n => cond (Nat.beq n 35) (some (oPush 153 36 (.int (Int32.ofInt (1))))) (cond (Nat.beq n 36) (some (oGoto 153 40)) (none))
noncomputable def rw_153rlrr : Nat → Option Op := fun n => cond (Nat.beq n 39) (some (oPush 153 40 (.int (Int32.ofInt (0))))) (cond (Nat.beq n 40) (some (oPush 153 41 (.int (Int32.ofInt (1))))) (cond (Nat.beq n 41) (some (oCall (runC 145) 153 44 2 3 2 3 hdN)) (none)))
noncomputable def rw_153rlr : Nat → Option Op := fun n => cond (Nat.blt n 39) (rw_153rlrl n) (rw_153rlrr n)
noncomputable def rw_153rl : Nat → Option Op := fun n => cond (Nat.blt n 35) (rw_153rll n) (rw_153rlr n)
noncomputable def rw_153rrll : Nat → Option Op := fun n => cond (Nat.beq n 44) (some (oCmp1 153 47 51 .eq)) (cond (Nat.beq n 47) (some (oPush 153 48 (.int (Int32.ofInt (0))))) (none))
noncomputable def rw_153rrlr : Nat → Option Op := fun n => cond (Nat.beq n 48) (some (oGoto 153 59)) (cond (Nat.beq n 51) (some (oLoad 153 52 1 0)) (cond (Nat.beq n 52) (some (oLoad 153 53 2 0)) (none)))
noncomputable def rw_153rrl : Nat → Option Op := fun n => cond (Nat.blt n 48) (rw_153rrll n) (rw_153rrlr n)
noncomputable def rw_153rrrl : Nat → Option Op := fun n => cond (Nat.beq n 53) (some (oPush 153 54 (.int (Int32.ofInt (0))))) (cond (Nat.beq n 54) (some (oPush 153 55 (.int (Int32.ofInt (0))))) (none))
noncomputable def rw_153rrrr : Nat → Option Op := fun n => cond (Nat.beq n 55) (some (oPush 153 56 (.int (Int32.ofInt (0))))) (cond (Nat.beq n 56) (some (oCall hk_195 153 59 1 5 0 11 hdN)) (cond (Nat.beq n 59) (some (oRet .int 0)) (none)))
noncomputable def rw_153rrr : Nat → Option Op := fun n => cond (Nat.blt n 55) (rw_153rrrl n) (rw_153rrrr n)
noncomputable def rw_153rr : Nat → Option Op := fun n => cond (Nat.blt n 53) (rw_153rrl n) (rw_153rrr n)
noncomputable def rw_153r : Nat → Option Op := fun n => cond (Nat.blt n 44) (rw_153rl n) (rw_153rr n)
noncomputable def rw_153 : Nat → Option Op := fun n => cond (Nat.blt n 29) (rw_153l n) (rw_153r n)
noncomputable def rw_154ll : Nat → Option Op := fun n => cond (Nat.beq n 0) (some (oLoad 154 1 0 4)) (cond (Nat.beq n 1) (some (oLoad 154 2 0 4)) (none))
noncomputable def rw_154lr : Nat → Option Op := fun n => cond (Nat.beq n 2) (some (oGet 154 5 2 16)) (cond (Nat.beq n 5) (some (oCmp1 154 8 12 .ne)) (cond (Nat.beq n 8) (some (oPush 154 9 (.int (Int32.ofInt (1))))) (none)))
noncomputable def rw_154l : Nat → Option Op := fun n => cond (Nat.blt n 2) (rw_154ll n) (rw_154lr n)
noncomputable def rw_154rl : Nat → Option Op := fun n => cond (Nat.beq n 9) (some (oGoto 154 13)) (cond (Nat.beq n 13) (some (oPush 154 14 (.int (Int32.ofInt (1))))) (cond (Nat.beq n 14) (some (oCall (runC 145) 154 17 2 3 2 3 hdN)) (none)))
noncomputable def rw_154rr : Nat → Option Op := fun n => cond (Nat.beq n 17) (some (oCmp1 154 20 63 .ne)) (cond (Nat.beq n 63) (some (oPush 154 64 (.int (Int32.ofInt (0))))) (cond (Nat.beq n 64) (some (oRet .int 0)) (none)))
noncomputable def rw_154r : Nat → Option Op := fun n => cond (Nat.blt n 17) (rw_154rl n) (rw_154rr n)
noncomputable def rw_154 : Nat → Option Op := fun n => cond (Nat.blt n 9) (rw_154l n) (rw_154r n)
noncomputable def rw_155lll : Nat → Option Op := fun n => cond (Nat.beq n 0) (some (oLoad 155 1 0 4)) (cond (Nat.beq n 1) (some (oLoad 155 2 1 0)) (cond (Nat.beq n 2) (some (oPush 155 3 (.int (Int32.ofInt (0))))) (none)))
noncomputable def rw_155llr : Nat → Option Op := fun n => cond (Nat.beq n 3) (some (oPush 155 4 (.int (Int32.ofInt (1))))) (cond (Nat.beq n 4) (some (oCall (runC 138) 155 7 1 3 0 3 hdN)) (cond (Nat.beq n 7) (some (oCmp1 155 10 14 .ne)) (none)))
noncomputable def rw_155ll : Nat → Option Op := fun n => cond (Nat.blt n 3) (rw_155lll n) (rw_155llr n)
noncomputable def rw_155lrl : Nat → Option Op := fun n => cond (Nat.beq n 10) (some (oPush 155 11 (.int (Int32.ofInt (1))))) (cond (Nat.beq n 11) (some (oGoto 155 15)) (cond (Nat.beq n 14) (some (oPush 155 15 (.int (Int32.ofInt (0))))) (none)))
noncomputable def rw_155lrr : Nat → Option Op := fun n => cond (Nat.beq n 15) (some (oPush 155 16 (.int (Int32.ofInt (1))))) (cond (Nat.beq n 16) (some (oCall (runC 145) 155 19 2 3 2 3 hdN)) (cond (Nat.beq n 19) (some (oCmp1 155 22 112 .ne)) (none)))
noncomputable def rw_155lr : Nat → Option Op := fun n => cond (Nat.blt n 15) (rw_155lrl n) (rw_155lrr n)
noncomputable def rw_155l : Nat → Option Op := fun n => cond (Nat.blt n 10) (rw_155ll n) (rw_155lr n)
noncomputable def rw_155rll : Nat → Option Op := fun n => cond (Nat.beq n 22) (some (oLoad 155 23 0 4)) (cond (Nat.beq n 23) (some (oLoad 155 24 0 4)) (cond (Nat.beq n 24) (some (oLoad 155 25 2 0)) (none)))
noncomputable def rw_155rlr : Nat → Option Op := fun n => cond (Nat.beq n 25) (some (oCall (runC 141) 155 28 2 2 2 2 hdN)) (cond (Nat.beq n 28) (some (oCmp1 155 31 35 .ne)) (cond (Nat.beq n 31) (some (oPush 155 32 (.int (Int32.ofInt (1))))) (none)))
noncomputable def rw_155rl : Nat → Option Op := fun n => cond (Nat.blt n 25) (rw_155rll n) (rw_155rlr n)
noncomputable def rw_155rrl : Nat → Option Op := fun n => cond (Nat.beq n 32) (some (oGoto 155 36)) (cond (Nat.beq n 36) (some (oPush 155 37 (.int (Int32.ofInt (2))))) (cond (Nat.beq n 37) (some (oCall (runC 145) 155 40 2 3 2 3 hdN)) (none)))
noncomputable def rw_155rrr : Nat → Option Op := fun n => cond (Nat.beq n 40) (some (oCmp1 155 43 112 .ne)) (cond (Nat.beq n 112) (some (oPush 155 113 (.int (Int32.ofInt (0))))) (cond (Nat.beq n 113) (some (oRet .int 0)) (none)))
noncomputable def rw_155rr : Nat → Option Op := fun n => cond (Nat.blt n 40) (rw_155rrl n) (rw_155rrr n)
noncomputable def rw_155r : Nat → Option Op := fun n => cond (Nat.blt n 32) (rw_155rl n) (rw_155rr n)
noncomputable def rw_155 : Nat → Option Op := fun n => cond (Nat.blt n 22) (rw_155l n) (rw_155r n)
noncomputable def rw_156llll : Nat → Option Op := fun n => cond (Nat.beq n 0) (some (oPush 156 1 (.int (Int32.ofInt (4))))) (cond (Nat.beq n 1) (some (oNewarr 156 3 .int 0)) (cond (Nat.beq n 3) (some (oDup 156 4)) (none)))
noncomputable def rw_156lllr : Nat → Option Op := fun n => cond (Nat.beq n 4) (some (oPush 156 5 (.int (Int32.ofInt (0))))) (cond (Nat.beq n 5) (some (oLoad 156 6 2 0)) (cond (Nat.beq n 6) (some (oIast 156 7)) (cond (Nat.beq n 7) (some (oDup 156 8)) (none))))
noncomputable def rw_156lll : Nat → Option Op := fun n => cond (Nat.blt n 4) (rw_156llll n) (rw_156lllr n)
noncomputable def rw_156llrl : Nat → Option Op := fun n => cond (Nat.beq n 8) (some (oPush 156 9 (.int (Int32.ofInt (1))))) (cond (Nat.beq n 9) (some (oLoad 156 10 3 0)) (cond (Nat.beq n 10) (some (oIast 156 11)) (cond (Nat.beq n 11) (some (oDup 156 12)) (none))))
noncomputable def rw_156llrr : Nat → Option Op := fun n => cond (Nat.beq n 12) (some (oPush 156 13 (.int (Int32.ofInt (2))))) (cond (Nat.beq n 13) (some (oLoad 156 15 4 0)) (cond (Nat.beq n 15) (some (oIast 156 16)) (cond (Nat.beq n 16) (some (oDup 156 17)) (none))))
noncomputable def rw_156llr : Nat → Option Op := fun n => cond (Nat.blt n 12) (rw_156llrl n) (rw_156llrr n)
noncomputable def rw_156ll : Nat → Option Op := fun n => cond (Nat.blt n 8) (rw_156lll n) (rw_156llr n)
noncomputable def rw_156lrll : Nat → Option Op := fun n => cond (Nat.beq n 17) (some (oPush 156 18 (.int (Int32.ofInt (3))))) (cond (Nat.beq n 18) (some (oLoad 156 20 5 0)) (cond (Nat.beq n 20) (some (oIast 156 21)) (none)))
noncomputable def rw_156lrlr : Nat → Option Op := fun n => cond (Nat.beq n 21) (some (oStore 156 23 6 4)) (cond (Nat.beq n 23) (some (oPush 156 24 (.int (Int32.ofInt (1))))) (cond (Nat.beq n 24) (some (oStore 156 26 7 0)) (cond (Nat.beq n 26) (some (oLoad 156 28 7 0)) (none))))
noncomputable def rw_156lrl : Nat → Option Op := fun n => cond (Nat.blt n 21) (rw_156lrll n) (rw_156lrlr n)
noncomputable def rw_156lrrl : Nat → Option Op := fun n => cond (Nat.beq n 28) (some (oPush 156 29 (.int (Int32.ofInt (4))))) (cond (Nat.beq n 29) (some (oCmp2 156 32 47 .ge)) (cond (Nat.beq n 32) (some (oLoad 156 34 6 4)) (cond (Nat.beq n 34) (some (oLoad 156 36 7 0)) (none))))
noncomputable def rw_156lrrr : Nat → Option Op := fun n => cond (Nat.beq n 36) (some (oIald 156 37)) (cond (Nat.beq n 37) (some (oPush 156 38 (.int (Int32.ofInt (-1))))) (cond (Nat.beq n 38) (some (oCmp2 156 41 47 .eq)) (cond (Nat.beq n 41) (some (oIinc 156 44 7 (1))) (none))))
noncomputable def rw_156lrr : Nat → Option Op := fun n => cond (Nat.blt n 36) (rw_156lrrl n) (rw_156lrrr n)
noncomputable def rw_156lr : Nat → Option Op := fun n => cond (Nat.blt n 28) (rw_156lrl n) (rw_156lrr n)
noncomputable def rw_156l : Nat → Option Op := fun n => cond (Nat.blt n 17) (rw_156ll n) (rw_156lr n)
noncomputable def rw_156rlll : Nat → Option Op := fun n => cond (Nat.beq n 44) (some (oGoto 156 26)) (cond (Nat.beq n 47) (some (oLoad 156 48 0 4)) (cond (Nat.beq n 48) (some (oLoad 156 49 1 0)) (none)))
noncomputable def rw_156rllr : Nat → Option Op := fun n => cond (Nat.beq n 49) (some (oCall (runC 141) 156 52 2 2 2 2 hdN)) (cond (Nat.beq n 52) (some (oStore 156 54 8 0)) (cond (Nat.beq n 54) (some (oPush 156 55 (.int (Int32.ofInt (0))))) (cond (Nat.beq n 55) (some (oStore 156 57 9 0)) (none))))
noncomputable def rw_156rll : Nat → Option Op := fun n => cond (Nat.blt n 49) (rw_156rlll n) (rw_156rllr n)
noncomputable def rw_156rlrl : Nat → Option Op := fun n => cond (Nat.beq n 57) (some (oLoad 156 59 9 0)) (cond (Nat.beq n 59) (some (oLoad 156 61 7 0)) (cond (Nat.beq n 61) (some (oCmp2 156 64 84 .ge)) (cond (Nat.beq n 64) (some (oLoad 156 66 8 0)) (none))))
noncomputable def rw_156rlrr : Nat → Option Op := fun n => cond (Nat.beq n 66) (some (oLoad 156 67 0 4)) (cond (Nat.beq n 67) (some (oLoad 156 69 6 4)) (cond (Nat.beq n 69) (some (oLoad 156 71 9 0)) (cond (Nat.beq n 71) (some (oIald 156 72)) (none))))
noncomputable def rw_156rlr : Nat → Option Op := fun n => cond (Nat.blt n 66) (rw_156rlrl n) (rw_156rlrr n)
noncomputable def rw_156rl : Nat → Option Op := fun n => cond (Nat.blt n 57) (rw_156rll n) (rw_156rlr n)
noncomputable def rw_156rrll : Nat → Option Op := fun n => cond (Nat.beq n 72) (some (oCall (runC 141) 156 75 2 2 2 2 hdN)) (cond (Nat.beq n 75) (some (oBin sdv 156 76 3)) (cond (Nat.beq n 76) (some (oStore 156 78 8 0)) (none)))
noncomputable def rw_156rrlr : Nat → Option Op := fun n => cond (Nat.beq n 78) (some (oIinc 156 81 9 (1))) (cond (Nat.beq n 81) (some (oGoto 156 57)) (cond (Nat.beq n 84) (some (oLoad 156 85 0 4)) (cond (Nat.beq n 85) (some (oLoad 156 87 8 0)) (none))))
noncomputable def rw_156rrl : Nat → Option Op := fun n => cond (Nat.blt n 78) (rw_156rrll n) (rw_156rrlr n)
noncomputable def rw_156rrrl : Nat → Option Op := fun n => cond (Nat.beq n 87) (some (oCmp1 156 90 94 .ne)) (cond (Nat.beq n 90) (some (oPush 156 91 (.int (Int32.ofInt (1))))) (cond (Nat.beq n 91) (some (oGoto 156 95)) (cond (Nat.beq n 95) (some (oPush 156 96 (.int (Int32.ofInt (1))))) (none))))
noncomputable def rw_156rrrr : Nat → Option Op := fun n => cond (Nat.beq n 96) (some (oCall (runC 145) 156 99 2 3 2 3 hdN)) (cond (Nat.beq n 99) (some (oCmp1 156 102 104 .eq)) (cond (Nat.beq n 102) (some (oPush 156 103 (.int (Int32.ofInt (0))))) (cond (Nat.beq n 103) (some (oRet .int 0)) (none))))
noncomputable def rw_156rrr : Nat → Option Op := fun n => cond (Nat.blt n 96) (rw_156rrrl n) (rw_156rrrr n)
noncomputable def rw_156rr : Nat → Option Op := fun n => cond (Nat.blt n 87) (rw_156rrl n) (rw_156rrr n)
noncomputable def rw_156r : Nat → Option Op := fun n => cond (Nat.blt n 72) (rw_156rl n) (rw_156rr n)
noncomputable def rw_156 : Nat → Option Op := fun n => cond (Nat.blt n 44) (rw_156l n) (rw_156r n)
noncomputable def rw_157lll : Nat → Option Op := fun n => cond (Nat.beq n 0) (some (oLoad 157 1 0 4)) (cond (Nat.beq n 1) (some (oLoad 157 2 0 4)) (none))
noncomputable def rw_157llr : Nat → Option Op := fun n => cond (Nat.beq n 2) (some (oLoad 157 3 1 0)) (cond (Nat.beq n 3) (some (oCall (runC 136) 157 6 2 2 2 5 hdN)) (cond (Nat.beq n 6) (some (oCmp1 157 9 13 .ne)) (none)))
noncomputable def rw_157ll : Nat → Option Op := fun n => cond (Nat.blt n 2) (rw_157lll n) (rw_157llr n)
noncomputable def rw_157lrl : Nat → Option Op := fun n => cond (Nat.beq n 9) (some (oPush 157 10 (.int (Int32.ofInt (1))))) (cond (Nat.beq n 10) (some (oGoto 157 14)) (cond (Nat.beq n 13) (some (oPush 157 14 (.int (Int32.ofInt (0))))) (none)))
noncomputable def rw_157lrr : Nat → Option Op := fun n => cond (Nat.beq n 14) (some (oPush 157 15 (.int (Int32.ofInt (1))))) (cond (Nat.beq n 15) (some (oCall (runC 145) 157 18 2 3 2 3 hdN)) (cond (Nat.beq n 18) (some (oCmp1 157 21 71 .ne)) (none)))
noncomputable def rw_157lr : Nat → Option Op := fun n => cond (Nat.blt n 14) (rw_157lrl n) (rw_157lrr n)
noncomputable def rw_157l : Nat → Option Op := fun n => cond (Nat.blt n 9) (rw_157ll n) (rw_157lr n)
noncomputable def rw_157rll : Nat → Option Op := fun n => cond (Nat.beq n 21) (some (oLoad 157 22 0 4)) (cond (Nat.beq n 22) (some (oLoad 157 23 0 4)) (none))
noncomputable def rw_157rlr : Nat → Option Op := fun n => cond (Nat.beq n 23) (some (oGet 157 26 2 16)) (cond (Nat.beq n 26) (some (oCmp1 157 29 37 .eq)) (cond (Nat.beq n 37) (some (oPush 157 38 (.int (Int32.ofInt (1))))) (none)))
noncomputable def rw_157rl : Nat → Option Op := fun n => cond (Nat.blt n 23) (rw_157rll n) (rw_157rlr n)
noncomputable def rw_157rrl : Nat → Option Op := fun n => cond (Nat.beq n 38) (some (oGoto 157 42)) (cond (Nat.beq n 42) (some (oPush 157 43 (.int (Int32.ofInt (2))))) (cond (Nat.beq n 43) (some (oCall (runC 145) 157 46 2 3 2 3 hdN)) (none)))
noncomputable def rw_157rrr : Nat → Option Op := fun n => cond (Nat.beq n 46) (some (oCmp1 157 49 71 .ne)) (cond (Nat.beq n 71) (some (oPush 157 72 (.int (Int32.ofInt (0))))) (cond (Nat.beq n 72) (some (oRet .int 0)) (none)))
noncomputable def rw_157rr : Nat → Option Op := fun n => cond (Nat.blt n 46) (rw_157rrl n) (rw_157rrr n)
noncomputable def rw_157r : Nat → Option Op := fun n => cond (Nat.blt n 38) (rw_157rl n) (rw_157rr n)
noncomputable def rw_157 : Nat → Option Op := fun n => cond (Nat.blt n 21) (rw_157l n) (rw_157r n)
noncomputable def rw_158l : Nat → Option Op := fun n => cond (Nat.beq n 0) (some (oLoad 158 1 0 4)) (cond (Nat.beq n 1) (some (oPush 158 2 (.int (Int32.ofInt (0))))) (cond (Nat.beq n 2) (some (oPut 158 5 2 15 .int)) (none)))
noncomputable def rw_158r : Nat → Option Op := fun n => cond (Nat.beq n 5) (some (oLoad 158 6 0 4)) (cond (Nat.beq n 6) (some (oGet 158 9 2 10)) (cond (Nat.beq n 9) (some (oRet .int 0)) (none)))
noncomputable def rw_158 : Nat → Option Op := fun n => cond (Nat.blt n 5) (rw_158l n) (rw_158r n)
noncomputable def rw_159lll : Nat → Option Op := fun n => cond (Nat.beq n 0) (some (oLoad 159 1 1 0)) (cond (Nat.beq n 1) (some (oLoad 159 2 0 4)) (none))
noncomputable def rw_159llr : Nat → Option Op := fun n => cond (Nat.beq n 2) (some (oGet 159 5 2 1)) (cond (Nat.beq n 5) (some (oCall (runC 189) 159 8 2 1 4 1 hdN)) (cond (Nat.beq n 8) (some (oBin sdv 159 9 1)) (none)))
noncomputable def rw_159ll : Nat → Option Op := fun n => cond (Nat.blt n 2) (rw_159lll n) (rw_159llr n)
noncomputable def rw_159lrl : Nat → Option Op := fun n => cond (Nat.beq n 9) (some (oPush 159 10 (.int (Int32.ofInt (1))))) (cond (Nat.beq n 10) (some (oBin sdv 159 11 1)) (none))
noncomputable def rw_159lrr : Nat → Option Op := fun n => cond (Nat.beq n 11) (some (oStore 159 12 3 0)) (cond (Nat.beq n 12) (some (oLoad 159 13 0 4)) (cond (Nat.beq n 13) (some (oLoad 159 14 0 4)) (none)))
noncomputable def rw_159lr : Nat → Option Op := fun n => cond (Nat.blt n 11) (rw_159lrl n) (rw_159lrr n)
noncomputable def rw_159l : Nat → Option Op := fun n => cond (Nat.blt n 9) (rw_159ll n) (rw_159lr n)
noncomputable def rw_159rll : Nat → Option Op := fun n => cond (Nat.beq n 14) (some (oGet 159 17 2 16)) (cond (Nat.beq n 17) (some (oCmp1 159 20 24 .ne)) (none))
noncomputable def rw_159rlr : Nat → Option Op := fun n => cond (Nat.beq n 20) (some (oPush 159 21 (.int (Int32.ofInt (1))))) (cond (Nat.beq n 21) (some (oGoto 159 25)) (cond (Nat.beq n 25) (some (oPush 159 26 (.int (Int32.ofInt (1))))) (none)))
noncomputable def rw_159rl : Nat → Option Op := fun n => cond (Nat.blt n 20) (rw_159rll n) (rw_159rlr n)
noncomputable def rw_159rrl : Nat → Option Op := fun n => cond (Nat.beq n 26) (some (oCall (runC 145) 159 29 2 3 2 3 hdN)) (cond (Nat.beq n 29) (some (oCmp1 159 32 62 .ne)) (none))
noncomputable def rw_159rrr : Nat → Option Op := fun n => cond (Nat.beq n 62) (some (oPush 159 63 (.int (Int32.ofInt (0))))) (cond (Nat.beq n 63) (some (oGoto 159 87)) (cond (Nat.beq n 87) (some (oRet .int 0)) (none)))
noncomputable def rw_159rr : Nat → Option Op := fun n => cond (Nat.blt n 62) (rw_159rrl n) (rw_159rrr n)
noncomputable def rw_159r : Nat → Option Op := fun n => cond (Nat.blt n 26) (rw_159rl n) (rw_159rr n)
noncomputable def rw_159 : Nat → Option Op := fun n => cond (Nat.blt n 14) (rw_159l n) (rw_159r n)
noncomputable def rw_160ll : Nat → Option Op := fun n => cond (Nat.beq n 0) (some (oLoad 160 1 0 4)) (cond (Nat.beq n 1) (some (oLoad 160 2 0 4)) (cond (Nat.beq n 2) (some (oGet 160 5 2 16)) (none)))
noncomputable def rw_160lr : Nat → Option Op := fun n => cond (Nat.beq n 5) (some (oCmp1 160 8 12 .ne)) (cond (Nat.beq n 8) (some (oPush 160 9 (.int (Int32.ofInt (1))))) (cond (Nat.beq n 9) (some (oGoto 160 13)) (none)))
noncomputable def rw_160l : Nat → Option Op := fun n => cond (Nat.blt n 5) (rw_160ll n) (rw_160lr n)
noncomputable def rw_160rl : Nat → Option Op := fun n => cond (Nat.beq n 13) (some (oPush 160 14 (.int (Int32.ofInt (1))))) (cond (Nat.beq n 14) (some (oCall (runC 145) 160 17 2 3 2 3 hdN)) (cond (Nat.beq n 17) (some (oCmp1 160 20 48 .ne)) (none)))
noncomputable def rw_160rr : Nat → Option Op := fun n => cond (Nat.beq n 48) (some (oPush 160 49 (.int (Int32.ofInt (0))))) (cond (Nat.beq n 49) (some (oGoto 160 57)) (cond (Nat.beq n 57) (some (oRet .int 0)) (none)))
noncomputable def rw_160r : Nat → Option Op := fun n => cond (Nat.blt n 48) (rw_160rl n) (rw_160rr n)
noncomputable def rw_160 : Nat → Option Op := fun n => cond (Nat.blt n 13) (rw_160l n) (rw_160r n)
noncomputable def rw_161l : Nat → Option Op := fun n => cond (Nat.beq n 0) (some (oLoad 161 1 0 4)) (cond (Nat.beq n 1) (some (oLoad 161 2 1 0)) (cond (Nat.beq n 2) (some (oLoad 161 3 2 0)) (none)))
noncomputable def rw_161r : Nat → Option Op := fun n => cond (Nat.beq n 3) (some (oCall (runC 119) 161 6 2 3 2 3 hdN)) (cond (Nat.beq n 6) (some (oCmp1 161 9 11 .eq)) (cond (Nat.beq n 9) (some (oPush 161 10 (.int (Int32.ofInt (0))))) (cond (Nat.beq n 10) (some (oRet .int 0)) (none))))
noncomputable def rw_161 : Nat → Option Op := fun n => cond (Nat.blt n 3) (rw_161l n) (rw_161r n)
noncomputable def rw_162ll : Nat → Option Op := fun n => cond (Nat.beq n 0) (some (oLoad 162 1 0 4)) (cond (Nat.beq n 1) (some (oLoad 162 2 0 4)) (cond (Nat.beq n 2) (some (oLoad 162 3 1 0)) (none)))
noncomputable def rw_162lr : Nat → Option Op := fun n => cond (Nat.beq n 3) (some (oCall (runC 141) 162 6 2 2 2 2 hdN)) (cond (Nat.beq n 6) (some (oCmp1 162 9 17 .eq)) (cond (Nat.beq n 17) (some (oPush 162 18 (.int (Int32.ofInt (1))))) (none)))
noncomputable def rw_162l : Nat → Option Op := fun n => cond (Nat.blt n 3) (rw_162ll n) (rw_162lr n)
noncomputable def rw_162rl : Nat → Option Op := fun n => cond (Nat.beq n 18) (some (oGoto 162 22)) (cond (Nat.beq n 22) (some (oPush 162 23 (.int (Int32.ofInt (1))))) (cond (Nat.beq n 23) (some (oCall (runC 145) 162 26 2 3 2 3 hdN)) (none)))
noncomputable def rw_162rr : Nat → Option Op := fun n => cond (Nat.beq n 26) (some (oCmp1 162 29 74 .ne)) (cond (Nat.beq n 74) (some (oPush 162 76 (.int (Int32.ofInt (32))))) (cond (Nat.beq n 76) (some (oRet .char 0)) (none)))
noncomputable def rw_162r : Nat → Option Op := fun n => cond (Nat.blt n 26) (rw_162rl n) (rw_162rr n)
noncomputable def rw_162 : Nat → Option Op := fun n => cond (Nat.blt n 18) (rw_162l n) (rw_162r n)
noncomputable def rw_163ll : Nat → Option Op := fun n => cond (Nat.beq n 0) (some (oLoad 163 1 0 4)) (cond (Nat.beq n 1) (some (oLoad 163 2 0 4)) (none))
noncomputable def rw_163lr : Nat → Option Op := fun n => cond (Nat.beq n 2) (some (oGet 163 5 2 16)) (cond (Nat.beq n 5) (some (oCmp1 163 8 12 .ne)) (cond (Nat.beq n 8) (some (oPush 163 9 (.int (Int32.ofInt (1))))) (none)))
noncomputable def rw_163l : Nat → Option Op := fun n => cond (Nat.blt n 2) (rw_163ll n) (rw_163lr n)
noncomputable def rw_163rl : Nat → Option Op := fun n => cond (Nat.beq n 9) (some (oGoto 163 13)) (cond (Nat.beq n 13) (some (oPush 163 14 (.int (Int32.ofInt (1))))) (cond (Nat.beq n 14) (some (oCall (runC 145) 163 17 2 3 2 3 hdN)) (none)))
noncomputable def rw_163rr : Nat → Option Op := fun n => cond (Nat.beq n 17) (some (oCmp1 163 20 22 .eq)) (cond (Nat.beq n 20) (some (oPush 163 21 (.int (Int32.ofInt (0))))) (cond (Nat.beq n 21) (some (oRet .int 0)) (none)))
noncomputable def rw_163r : Nat → Option Op := fun n => cond (Nat.blt n 17) (rw_163rl n) (rw_163rr n)
noncomputable def rw_163 : Nat → Option Op := fun n => cond (Nat.blt n 9) (rw_163l n) (rw_163r n)
noncomputable def rw_164llll : Nat → Option Op := fun n => cond (Nat.beq n 0) (some (oLoad 164 1 1 0)) (cond (Nat.beq n 1) (some (oPush 164 2 (.int (Int32.ofInt (0))))) (none))
noncomputable def rw_164lllr : Nat → Option Op := fun n => cond (Nat.beq n 2) (some (oPush 164 3 (.int (Int32.ofInt (1))))) (cond (Nat.beq n 3) (some (oCall (runC 138) 164 6 1 3 0 3 hdN)) (cond (Nat.beq n 6) (some (oCmp1 164 9 54 .eq)) (none)))
noncomputable def rw_164lll : Nat → Option Op := fun n => cond (Nat.blt n 2) (rw_164llll n) (rw_164lllr n)
noncomputable def rw_164llrl : Nat → Option Op := fun n => cond (Nat.beq n 9) (some (oLoad 164 10 2 0)) (cond (Nat.beq n 10) (some (oPush 164 11 (.int (Int32.ofInt (0))))) (cond (Nat.beq n 11) (some (oPush 164 13 (.int (Int32.ofInt (30))))) (none)))
noncomputable def rw_164llrr : Nat → Option Op := fun n => cond (Nat.beq n 13) (some (oCall (runC 138) 164 16 1 3 0 3 hdN)) (cond (Nat.beq n 16) (some (oCmp1 164 19 54 .eq)) (cond (Nat.beq n 19) (some (oLoad 164 20 3 0)) (none)))
noncomputable def rw_164llr : Nat → Option Op := fun n => cond (Nat.blt n 13) (rw_164llrl n) (rw_164llrr n)
noncomputable def rw_164ll : Nat → Option Op := fun n => cond (Nat.blt n 9) (rw_164lll n) (rw_164llr n)
noncomputable def rw_164lrll : Nat → Option Op := fun n => cond (Nat.beq n 20) (some (oPush 164 21 (.int (Int32.ofInt (0))))) (cond (Nat.beq n 21) (some (oPush 164 22 (.int (Int32.ofInt (1))))) (cond (Nat.beq n 22) (some (oLoad 164 23 0 4)) (none)))
noncomputable def rw_164lrlr : Nat → Option Op := fun n => cond (Nat.beq n 23) (some (oCall (runC 135) 164 26 2 1 2 4 hdN)) (cond (Nat.beq n 26) (some (oBin sdv 164 27 6)) (cond (Nat.beq n 27) (some (oPush 164 28 (.int (Int32.ofInt (1))))) (none)))
noncomputable def rw_164lrl : Nat → Option Op := fun n => cond (Nat.blt n 23) (rw_164lrll n) (rw_164lrlr n)
noncomputable def rw_164lrrl : Nat → Option Op := fun n => cond (Nat.beq n 28) (some (oBin sdv 164 29 1)) (cond (Nat.beq n 29) (some (oCall (runC 138) 164 32 1 3 0 3 hdN)) (cond (Nat.beq n 32) (some (oCmp1 164 35 54 .eq)) (none)))
noncomputable def rw_164lrrr : Nat → Option Op := fun n => cond (Nat.beq n 35) (some (oLoad 164 36 0 4)) (cond (Nat.beq n 36) (some (oGet 164 39 2 16)) (cond (Nat.beq n 39) (some (oCmp1 164 42 50 .eq)) (none)))
noncomputable def rw_164lrr : Nat → Option Op := fun n => cond (Nat.blt n 35) (rw_164lrrl n) (rw_164lrrr n)
noncomputable def rw_164lr : Nat → Option Op := fun n => cond (Nat.blt n 28) (rw_164lrl n) (rw_164lrr n)
noncomputable def rw_164l : Nat → Option Op := fun n => cond (Nat.blt n 20) (rw_164ll n) (rw_164lr n)
noncomputable def rw_164rlll : Nat → Option Op := fun n => cond (Nat.beq n 50) (some (oPush 164 51 (.int (Int32.ofInt (1))))) (cond (Nat.beq n 51) (some (oGoto 164 55)) (cond (Nat.beq n 54) (some (oPush 164 55 (.int (Int32.ofInt (0))))) (none)))
noncomputable def rw_164rllr : Nat → Option Op := fun n => cond (Nat.beq n 55) (some (oStore 164 57 4 0)) (cond (Nat.beq n 57) (some (oLoad 164 58 0 4)) (cond (Nat.beq n 58) (some (oLoad 164 60 4 0)) (none)))
noncomputable def rw_164rll : Nat → Option Op := fun n => cond (Nat.blt n 55) (rw_164rlll n) (rw_164rllr n)
noncomputable def rw_164rlrl : Nat → Option Op := fun n => cond (Nat.beq n 60) (some (oCmp1 164 63 67 .ne)) (cond (Nat.beq n 63) (some (oPush 164 64 (.int (Int32.ofInt (1))))) (cond (Nat.beq n 64) (some (oGoto 164 68)) (none)))
noncomputable def rw_164rlrr : Nat → Option Op := fun n => cond (Nat.beq n 67) (some (oPush 164 68 (.int (Int32.ofInt (0))))) (cond (Nat.beq n 68) (some (oPush 164 69 (.int (Int32.ofInt (1))))) (cond (Nat.beq n 69) (some (oCall (runC 145) 164 72 2 3 2 3 hdN)) (none)))
noncomputable def rw_164rlr : Nat → Option Op := fun n => cond (Nat.blt n 67) (rw_164rlrl n) (rw_164rlrr n)
noncomputable def rw_164rl : Nat → Option Op := fun n => cond (Nat.blt n 60) (rw_164rll n) (rw_164rlr n)
noncomputable def rw_164rrll : Nat → Option Op := fun n => cond (Nat.beq n 72) (some (oCmp1 164 75 95 .ne)) (cond (Nat.beq n 75) (some (oLoad 164 76 0 4)) (cond (Nat.beq n 76) (some (oLoad 164 77 0 4)) (none)))
noncomputable def rw_164rrlr : Nat → Option Op := fun n => cond (Nat.beq n 77) (some (oGet 164 80 2 16)) (cond (Nat.beq n 80) (some (oCmp1 164 83 87 .ne)) (cond (Nat.beq n 83) (some (oPush 164 84 (.int (Int32.ofInt (1))))) (none)))
noncomputable def rw_164rrl : Nat → Option Op := fun n => cond (Nat.blt n 77) (rw_164rrll n) (rw_164rrlr n)
noncomputable def rw_164rrrl : Nat → Option Op := fun n => cond (Nat.beq n 84) (some (oGoto 164 88)) (cond (Nat.beq n 88) (some (oPush 164 89 (.int (Int32.ofInt (2))))) (cond (Nat.beq n 89) (some (oCall (runC 145) 164 92 2 3 2 3 hdN)) (none)))
noncomputable def rw_164rrrr : Nat → Option Op := fun n => cond (Nat.beq n 92) (some (oCmp1 164 95 97 .eq)) (cond (Nat.beq n 95) (some (oPush 164 96 (.int (Int32.ofInt (0))))) (cond (Nat.beq n 96) (some (oRet .int 0)) (none)))
noncomputable def rw_164rrr : Nat → Option Op := fun n => cond (Nat.blt n 92) (rw_164rrrl n) (rw_164rrrr n)
noncomputable def rw_164rr : Nat → Option Op := fun n => cond (Nat.blt n 84) (rw_164rrl n) (rw_164rrr n)
noncomputable def rw_164r : Nat → Option Op := fun n => cond (Nat.blt n 72) (rw_164rl n) (rw_164rr n)
noncomputable def rw_164 : Nat → Option Op := fun n => cond (Nat.blt n 50) (rw_164l n) (rw_164r n)
noncomputable def rw_165l : Nat → Option Op := fun n => cond (Nat.beq n 0) (some (oLoad 165 1 0 4)) (cond (Nat.beq n 1) (some (oLoad 165 2 1 0)) (cond (Nat.beq n 2) (some (oCall (runC 142) 165 5 2 2 2 2 hdN)) (none)))
noncomputable def rw_165r : Nat → Option Op := fun n => cond (Nat.beq n 5) (some (oCmp1 165 8 12 .eq)) (cond (Nat.beq n 8) (some (oPush 165 9 (.int (Int32.ofInt (0))))) (cond (Nat.beq n 9) (some (oGoto 165 27)) (cond (Nat.beq n 27) (some (oRet .int 0)) (none))))
noncomputable def rw_165 : Nat → Option Op := fun n => cond (Nat.blt n 5) (rw_165l n) (rw_165r n)
noncomputable def rw_166ll : Nat → Option Op := fun n => cond (Nat.beq n 0) (some (oLoad 166 1 0 4)) (cond (Nat.beq n 1) (some (oLoad 166 2 0 4)) (none))
noncomputable def rw_166lr : Nat → Option Op := fun n => cond (Nat.beq n 2) (some (oGet 166 5 2 16)) (cond (Nat.beq n 5) (some (oCmp1 166 8 12 .ne)) (cond (Nat.beq n 8) (some (oPush 166 9 (.int (Int32.ofInt (1))))) (none)))
noncomputable def rw_166l : Nat → Option Op := fun n => cond (Nat.blt n 2) (rw_166ll n) (rw_166lr n)
noncomputable def rw_166rl : Nat → Option Op := fun n => cond (Nat.beq n 9) (some (oGoto 166 13)) (cond (Nat.beq n 13) (some (oPush 166 14 (.int (Int32.ofInt (1))))) (cond (Nat.beq n 14) (some (oCall (runC 145) 166 17 2 3 2 3 hdN)) (none)))
noncomputable def rw_166rr : Nat → Option Op := fun n => cond (Nat.beq n 17) (some (oCmp1 166 20 22 .eq)) (cond (Nat.beq n 20) (some (oPush 166 21 (.int (Int32.ofInt (0))))) (cond (Nat.beq n 21) (some (oRet .int 0)) (none)))
noncomputable def rw_166r : Nat → Option Op := fun n => cond (Nat.blt n 17) (rw_166rl n) (rw_166rr n)
noncomputable def rw_166 : Nat → Option Op := fun n => cond (Nat.blt n 9) (rw_166l n) (rw_166r n)
noncomputable def rw_167l : Nat → Option Op := fun n => cond (Nat.beq n 0) (some (oLoad 167 1 0 4)) (cond (Nat.beq n 1) (some (oLoad 167 2 1 0)) (cond (Nat.beq n 2) (some (oCall (runC 142) 167 5 2 2 2 2 hdN)) (none)))
noncomputable def rw_167r : Nat → Option Op := fun n => cond (Nat.beq n 5) (some (oCmp1 167 8 12 .eq)) (cond (Nat.beq n 8) (some (oPush 167 9 (.long (Int64.ofNat 0)))) (cond (Nat.beq n 9) (some (oGoto 167 27)) (cond (Nat.beq n 27) (some (oRet .long 1)) (none))))
noncomputable def rw_167 : Nat → Option Op := fun n => cond (Nat.blt n 5) (rw_167l n) (rw_167r n)
noncomputable def rw_168lll : Nat → Option Op := fun n => cond (Nat.beq n 0) (some (oLoad 168 1 0 4)) (cond (Nat.beq n 1) (some (oLoad 168 2 1 0)) (none))
noncomputable def rw_168llr : Nat → Option Op := fun n => cond (Nat.beq n 2) (some (oPush 168 3 (.int (Int32.ofInt (1))))) (cond (Nat.beq n 3) (some (oPush 168 6 (.int (Int32.ofInt (20000))))) (cond (Nat.beq n 6) (some (oCall (runC 138) 168 9 1 3 0 3 hdN)) (none)))
noncomputable def rw_168ll : Nat → Option Op := fun n => cond (Nat.blt n 2) (rw_168lll n) (rw_168llr n)
noncomputable def rw_168lrl : Nat → Option Op := fun n => cond (Nat.beq n 9) (some (oCmp1 168 12 16 .ne)) (cond (Nat.beq n 12) (some (oPush 168 13 (.int (Int32.ofInt (1))))) (cond (Nat.beq n 13) (some (oGoto 168 17)) (none)))
noncomputable def rw_168lrr : Nat → Option Op := fun n => cond (Nat.beq n 16) (some (oPush 168 17 (.int (Int32.ofInt (0))))) (cond (Nat.beq n 17) (some (oPush 168 18 (.int (Int32.ofInt (1))))) (cond (Nat.beq n 18) (some (oCall (runC 145) 168 21 2 3 2 3 hdN)) (none)))
noncomputable def rw_168lr : Nat → Option Op := fun n => cond (Nat.blt n 16) (rw_168lrl n) (rw_168lrr n)
noncomputable def rw_168l : Nat → Option Op := fun n => cond (Nat.blt n 9) (rw_168ll n) (rw_168lr n)
noncomputable def rw_168rll : Nat → Option Op := fun n => cond (Nat.beq n 21) (some (oCmp1 168 24 44 .ne)) (cond (Nat.beq n 24) (some (oLoad 168 25 0 4)) (cond (Nat.beq n 25) (some (oLoad 168 26 0 4)) (none)))
noncomputable def rw_168rlr : Nat → Option Op := fun n => cond (Nat.beq n 26) (some (oGet 168 29 2 16)) (cond (Nat.beq n 29) (some (oCmp1 168 32 36 .ne)) (cond (Nat.beq n 32) (some (oPush 168 33 (.int (Int32.ofInt (1))))) (none)))
noncomputable def rw_168rl : Nat → Option Op := fun n => cond (Nat.blt n 26) (rw_168rll n) (rw_168rlr n)
noncomputable def rw_168rrl : Nat → Option Op := fun n => cond (Nat.beq n 33) (some (oGoto 168 37)) (cond (Nat.beq n 37) (some (oPush 168 38 (.int (Int32.ofInt (2))))) (cond (Nat.beq n 38) (some (oCall (runC 145) 168 41 2 3 2 3 hdN)) (none)))
noncomputable def rw_168rrr : Nat → Option Op := fun n => cond (Nat.beq n 41) (some (oCmp1 168 44 46 .eq)) (cond (Nat.beq n 44) (some (oPush 168 45 (.int (Int32.ofInt (0))))) (cond (Nat.beq n 45) (some (oRet .int 0)) (none)))
noncomputable def rw_168rr : Nat → Option Op := fun n => cond (Nat.blt n 41) (rw_168rrl n) (rw_168rrr n)
noncomputable def rw_168r : Nat → Option Op := fun n => cond (Nat.blt n 33) (rw_168rl n) (rw_168rr n)
noncomputable def rw_168 : Nat → Option Op := fun n => cond (Nat.blt n 21) (rw_168l n) (rw_168r n)
noncomputable def rw_169l : Nat → Option Op := fun n => cond (Nat.beq n 0) (some (oLoad 169 1 0 4)) (cond (Nat.beq n 1) (some (oLoad 169 2 1 0)) (cond (Nat.beq n 2) (some (oLoad 169 3 2 0)) (none)))
noncomputable def rw_169r : Nat → Option Op := fun n => cond (Nat.beq n 3) (some (oCall (runC 143) 169 6 2 3 2 3 hdN)) (cond (Nat.beq n 6) (some (oCmp1 169 9 11 .eq)) (cond (Nat.beq n 9) (some (oPush 169 10 (.int (Int32.ofInt (0))))) (cond (Nat.beq n 10) (some (oRet .int 0)) (none))))
noncomputable def rw_169 : Nat → Option Op := fun n => cond (Nat.blt n 3) (rw_169l n) (rw_169r n)
noncomputable def rw_170 : Nat → Option Op := fun n => cond (Nat.beq n 0) (some (oLoad 170 1 0 4)) (cond (Nat.beq n 1) (some (oGet 170 4 2 15)) (cond (Nat.beq n 4) (some (oRet .int 0)) (none)))
noncomputable def rw_171ll : Nat → Option Op := fun n => cond (Nat.beq n 0) (some (oLoad 171 1 0 4)) (cond (Nat.beq n 1) (some (oLoad 171 2 0 4)) (none))
noncomputable def rw_171lr : Nat → Option Op := fun n => cond (Nat.beq n 2) (some (oGet 171 5 2 16)) (cond (Nat.beq n 5) (some (oCmp1 171 8 12 .ne)) (cond (Nat.beq n 8) (some (oPush 171 9 (.int (Int32.ofInt (1))))) (none)))
noncomputable def rw_171l : Nat → Option Op := fun n => cond (Nat.blt n 2) (rw_171ll n) (rw_171lr n)
noncomputable def rw_171rl : Nat → Option Op := fun n => cond (Nat.beq n 9) (some (oGoto 171 13)) (cond (Nat.beq n 13) (some (oPush 171 14 (.int (Int32.ofInt (1))))) (cond (Nat.beq n 14) (some (oCall (runC 145) 171 17 2 3 2 3 hdN)) (none)))
noncomputable def rw_171rr : Nat → Option Op := fun n => cond (Nat.beq n 17) (some (oCmp1 171 20 22 .eq)) (cond (Nat.beq n 20) (some (oPush 171 21 (.int (Int32.ofInt (0))))) (cond (Nat.beq n 21) (some (oRet .int 0)) (none)))
noncomputable def rw_171r : Nat → Option Op := fun n => cond (Nat.blt n 17) (rw_171rl n) (rw_171rr n)
noncomputable def rw_171 : Nat → Option Op := fun n => cond (Nat.blt n 9) (rw_171l n) (rw_171r n)
noncomputable def rw_172ll : Nat → Option Op := fun n => cond (Nat.beq n 0) (some (oLoad 172 1 0 4)) (cond (Nat.beq n 1) (some (oLoad 172 2 0 4)) (cond (Nat.beq n 2) (some (oLoad 172 3 1 0)) (none)))
noncomputable def rw_172lr : Nat → Option Op := fun n => cond (Nat.beq n 3) (some (oCall (runC 141) 172 6 2 2 2 2 hdN)) (cond (Nat.beq n 6) (some (oCmp1 172 9 13 .ne)) (cond (Nat.beq n 9) (some (oPush 172 10 (.int (Int32.ofInt (1))))) (none)))
noncomputable def rw_172l : Nat → Option Op := fun n => cond (Nat.blt n 3) (rw_172ll n) (rw_172lr n)
noncomputable def rw_172rl : Nat → Option Op := fun n => cond (Nat.beq n 10) (some (oGoto 172 14)) (cond (Nat.beq n 14) (some (oPush 172 15 (.int (Int32.ofInt (1))))) (cond (Nat.beq n 15) (some (oCall (runC 145) 172 18 2 3 2 3 hdN)) (none)))
noncomputable def rw_172rr : Nat → Option Op := fun n => cond (Nat.beq n 18) (some (oCmp1 172 21 62 .ne)) (cond (Nat.beq n 62) (some (oPush 172 63 (.int (Int32.ofInt (0))))) (cond (Nat.beq n 63) (some (oRet .int 0)) (none)))
noncomputable def rw_172r : Nat → Option Op := fun n => cond (Nat.blt n 18) (rw_172rl n) (rw_172rr n)
noncomputable def rw_172 : Nat → Option Op := fun n => cond (Nat.blt n 10) (rw_172l n) (rw_172r n)
noncomputable def rw_173l : Nat → Option Op := fun n => cond (Nat.beq n 0) (some (oLoad 173 1 0 4)) (cond (Nat.beq n 1) (some (oLoad 173 2 1 0)) (cond (Nat.beq n 2) (some (oLoad 173 3 2 0)) (none)))
noncomputable def rw_173r : Nat → Option Op := fun n => cond (Nat.beq n 3) (some (oCall (runC 119) 173 6 2 3 2 3 hdN)) (cond (Nat.beq n 6) (some (oCmp1 173 9 11 .eq)) (cond (Nat.beq n 9) (some (oPush 173 10 (.int (Int32.ofInt (0))))) (cond (Nat.beq n 10) (some (oRet .int 0)) (none))))
noncomputable def rw_173 : Nat → Option Op := fun n => cond (Nat.blt n 3) (rw_173l n) (rw_173r n)
noncomputable def rw_174lll : Nat → Option Op := fun n => cond (Nat.beq n 0) (some (oLoad 174 1 0 4)) (cond (Nat.beq n 1) (some (oLoad 174 2 1 0)) (cond (Nat.beq n 2) (some (oPush 174 3 (.int (Int32.ofInt (0))))) (none)))
noncomputable def rw_174llr : Nat → Option Op := fun n => cond (Nat.beq n 3) (some (oPush 174 4 (.int (Int32.ofInt (1))))) (cond (Nat.beq n 4) (some (oCall (runC 138) 174 7 1 3 0 3 hdN)) (cond (Nat.beq n 7) (some (oCmp1 174 10 20 .eq)) (none)))
noncomputable def rw_174ll : Nat → Option Op := fun n => cond (Nat.blt n 3) (rw_174lll n) (rw_174llr n)
noncomputable def rw_174lrl : Nat → Option Op := fun n => cond (Nat.beq n 10) (some (oLoad 174 11 2 0)) (cond (Nat.beq n 11) (some (oPush 174 12 (.int (Int32.ofInt (1))))) (cond (Nat.beq n 12) (some (oPush 174 14 (.int (Int32.ofInt (6))))) (none)))
noncomputable def rw_174lrr : Nat → Option Op := fun n => cond (Nat.beq n 14) (some (oCall (runC 138) 174 17 1 3 0 3 hdN)) (cond (Nat.beq n 17) (some (oCmp1 174 20 24 .ne)) (cond (Nat.beq n 20) (some (oPush 174 21 (.int (Int32.ofInt (1))))) (cond (Nat.beq n 21) (some (oGoto 174 25)) (none))))
noncomputable def rw_174lr : Nat → Option Op := fun n => cond (Nat.blt n 14) (rw_174lrl n) (rw_174lrr n)
noncomputable def rw_174l : Nat → Option Op := fun n => cond (Nat.blt n 10) (rw_174ll n) (rw_174lr n)
noncomputable def rw_174rll : Nat → Option Op := fun n => cond (Nat.beq n 24) (some (oPush 174 25 (.int (Int32.ofInt (0))))) (cond (Nat.beq n 25) (some (oPush 174 26 (.int (Int32.ofInt (1))))) (cond (Nat.beq n 26) (some (oCall (runC 145) 174 29 2 3 2 3 hdN)) (none)))
noncomputable def rw_174rlr : Nat → Option Op := fun n => cond (Nat.beq n 29) (some (oCmp1 174 32 36 .eq)) (cond (Nat.beq n 32) (some (oPush 174 33 (.int (Int32.ofInt (0))))) (cond (Nat.beq n 33) (some (oGoto 174 45)) (none)))
noncomputable def rw_174rl : Nat → Option Op := fun n => cond (Nat.blt n 29) (rw_174rll n) (rw_174rlr n)
noncomputable def rw_174rrl : Nat → Option Op := fun n => cond (Nat.beq n 36) (some (oLoad 174 37 0 4)) (cond (Nat.beq n 37) (some (oLoad 174 38 1 0)) (cond (Nat.beq n 38) (some (oLoad 174 39 2 0)) (none)))
noncomputable def rw_174rrr : Nat → Option Op := fun n => cond (Nat.beq n 39) (some (oLoad 174 40 3 0)) (cond (Nat.beq n 40) (some (oLoad 174 42 4 0)) (cond (Nat.beq n 42) (some (oCall (runC 175) 174 45 2 5 2 10 hdN)) (cond (Nat.beq n 45) (some (oRet .int 0)) (none))))
noncomputable def rw_174rr : Nat → Option Op := fun n => cond (Nat.blt n 39) (rw_174rrl n) (rw_174rrr n)
noncomputable def rw_174r : Nat → Option Op := fun n => cond (Nat.blt n 36) (rw_174rl n) (rw_174rr n)
noncomputable def rw_174 : Nat → Option Op := fun n => cond (Nat.blt n 24) (rw_174l n) (rw_174r n)
noncomputable def rw_175llll : Nat → Option Op := fun n => cond (Nat.beq n 0) (some (oPush 175 1 (.int (Int32.ofInt (0))))) (cond (Nat.beq n 1) (some (oStore 175 3 5 0)) (cond (Nat.beq n 3) (some (oPush 175 4 (.int (Int32.ofInt (0))))) (none)))
noncomputable def rw_175lllr : Nat → Option Op := fun n => cond (Nat.beq n 4) (some (oStore 175 6 6 0)) (cond (Nat.beq n 6) (some (oLoad 175 8 6 0)) (cond (Nat.beq n 8) (some (oPush 175 9 (.int (Int32.ofInt (4))))) (cond (Nat.beq n 9) (some (oCmp2 175 12 99 .ge)) (none))))
noncomputable def rw_175lll : Nat → Option Op := fun n => cond (Nat.blt n 4) (rw_175llll n) (rw_175lllr n)
noncomputable def rw_175llrl : Nat → Option Op := fun n => cond (Nat.beq n 12) (some (oPush 175 13 (.int (Int32.ofInt (0))))) (cond (Nat.beq n 13) (some (oStore 175 15 7 0)) (cond (Nat.beq n 15) (some (oLoad 175 17 7 0)) (none)))
noncomputable def rw_175llrr : Nat → Option Op := fun n => cond (Nat.beq n 17) (some (oPush 175 18 (.int (Int32.ofInt (4))))) (cond (Nat.beq n 18) (some (oCmp2 175 21 93 .ge)) (cond (Nat.beq n 21) (some (oLoad 175 22 0 4)) (cond (Nat.beq n 22) (some (oGet 175 25 2 7)) (none))))
noncomputable def rw_175llr : Nat → Option Op := fun n => cond (Nat.blt n 17) (rw_175llrl n) (rw_175llrr n)
noncomputable def rw_175ll : Nat → Option Op := fun n => cond (Nat.blt n 12) (rw_175lll n) (rw_175llr n)
noncomputable def rw_175lrll : Nat → Option Op := fun n => cond (Nat.beq n 25) (some (oLoad 175 26 1 0)) (cond (Nat.beq n 26) (some (oAald 175 27)) (cond (Nat.beq n 27) (some (oLoad 175 29 6 0)) (none)))
noncomputable def rw_175lrlr : Nat → Option Op := fun n => cond (Nat.beq n 29) (some (oAald 175 30)) (cond (Nat.beq n 30) (some (oLoad 175 32 7 0)) (cond (Nat.beq n 32) (some (oIald 175 33)) (cond (Nat.beq n 33) (some (oStore 175 35 8 0)) (none))))
noncomputable def rw_175lrl : Nat → Option Op := fun n => cond (Nat.blt n 29) (rw_175lrll n) (rw_175lrlr n)
noncomputable def rw_175lrrl : Nat → Option Op := fun n => cond (Nat.beq n 35) (some (oPush 175 36 (.int (Int32.ofInt (0))))) (cond (Nat.beq n 36) (some (oStore 175 38 9 0)) (cond (Nat.beq n 38) (some (oLoad 175 40 9 0)) (cond (Nat.beq n 40) (some (oLoad 175 42 6 0)) (none))))
noncomputable def rw_175lrrr : Nat → Option Op := fun n => cond (Nat.beq n 42) (some (oCmp2 175 45 57 .ge)) (cond (Nat.beq n 45) (some (oLoad 175 47 8 0)) (cond (Nat.beq n 47) (some (oLoad 175 48 3 0)) (cond (Nat.beq n 48) (some (oBin sdv 175 49 2)) (none))))
noncomputable def rw_175lrr : Nat → Option Op := fun n => cond (Nat.blt n 42) (rw_175lrrl n) (rw_175lrrr n)
noncomputable def rw_175lr : Nat → Option Op := fun n => cond (Nat.blt n 35) (rw_175lrl n) (rw_175lrr n)
noncomputable def rw_175l : Nat → Option Op := fun n => cond (Nat.blt n 25) (rw_175ll n) (rw_175lr n)
noncomputable def rw_175rlll : Nat → Option Op := fun n => cond (Nat.beq n 49) (some (oStore 175 51 8 0)) (cond (Nat.beq n 51) (some (oIinc 175 54 9 (1))) (cond (Nat.beq n 54) (some (oGoto 175 38)) (none)))
noncomputable def rw_175rllr : Nat → Option Op := fun n => cond (Nat.beq n 57) (some (oPush 175 58 (.int (Int32.ofInt (0))))) (cond (Nat.beq n 58) (some (oStore 175 60 9 0)) (cond (Nat.beq n 60) (some (oLoad 175 62 9 0)) (cond (Nat.beq n 62) (some (oLoad 175 64 7 0)) (none))))
noncomputable def rw_175rll : Nat → Option Op := fun n => cond (Nat.blt n 57) (rw_175rlll n) (rw_175rllr n)
noncomputable def rw_175rlrl : Nat → Option Op := fun n => cond (Nat.beq n 64) (some (oCmp2 175 67 80 .ge)) (cond (Nat.beq n 67) (some (oLoad 175 69 8 0)) (cond (Nat.beq n 69) (some (oLoad 175 71 4 0)) (cond (Nat.beq n 71) (some (oBin sdv 175 72 2)) (none))))
noncomputable def rw_175rlrr : Nat → Option Op := fun n => cond (Nat.beq n 72) (some (oStore 175 74 8 0)) (cond (Nat.beq n 74) (some (oIinc 175 77 9 (1))) (cond (Nat.beq n 77) (some (oGoto 175 60)) (cond (Nat.beq n 80) (some (oLoad 175 82 5 0)) (none))))
noncomputable def rw_175rlr : Nat → Option Op := fun n => cond (Nat.blt n 72) (rw_175rlrl n) (rw_175rlrr n)
noncomputable def rw_175rl : Nat → Option Op := fun n => cond (Nat.blt n 64) (rw_175rll n) (rw_175rlr n)
noncomputable def rw_175rrll : Nat → Option Op := fun n => cond (Nat.beq n 82) (some (oLoad 175 84 8 0)) (cond (Nat.beq n 84) (some (oBin sdv 175 85 0)) (cond (Nat.beq n 85) (some (oStore 175 87 5 0)) (none)))
noncomputable def rw_175rrlr : Nat → Option Op := fun n => cond (Nat.beq n 87) (some (oIinc 175 90 7 (1))) (cond (Nat.beq n 90) (some (oGoto 175 15)) (cond (Nat.beq n 93) (some (oIinc 175 96 6 (1))) (cond (Nat.beq n 96) (some (oGoto 175 6)) (none))))
noncomputable def rw_175rrl : Nat → Option Op := fun n => cond (Nat.blt n 87) (rw_175rrll n) (rw_175rrlr n)
noncomputable def rw_175rrrl : Nat → Option Op := fun n => cond (Nat.beq n 99) (some (oLoad 175 101 5 0)) (cond (Nat.beq n 101) (some (oPush 175 102 (.int (Int32.ofInt (1))))) (cond (Nat.beq n 102) (some (oLoad 175 103 2 0)) (cond (Nat.beq n 103) (some (oBin sdv 175 104 6)) (none))))
noncomputable def rw_175rrrr : Nat → Option Op := fun n => cond (Nat.beq n 104) (some (oPush 175 105 (.int (Int32.ofInt (1))))) (cond (Nat.beq n 105) (some (oBin sdv 175 106 1)) (cond (Nat.beq n 106) (some (oBin sdv 175 107 3)) (cond (Nat.beq n 107) (some (oRet .int 0)) (none))))
noncomputable def rw_175rrr : Nat → Option Op := fun n => cond (Nat.blt n 104) (rw_175rrrl n) (rw_175rrrr n)
noncomputable def rw_175rr : Nat → Option Op := fun n => cond (Nat.blt n 99) (rw_175rrl n) (rw_175rrr n)
noncomputable def rw_175r : Nat → Option Op := fun n => cond (Nat.blt n 82) (rw_175rl n) (rw_175rr n)
noncomputable def rw_175 : Nat → Option Op := fun n => cond (Nat.blt n 49) (rw_175l n) (rw_175r n)
noncomputable def rw_176llll : Nat → Option Op := fun n => cond (Nat.beq n 0) (some (oLoad 176 1 0 4)) (cond (Nat.beq n 1) (some (oObj 176 4)) (none))
noncomputable def rw_176lllr : Nat → Option Op := fun n => cond (Nat.beq n 4) (some (oLoad 176 5 0 4)) (cond (Nat.beq n 5) (some (oPush 176 6 (.int (Int32.ofInt (0))))) (cond (Nat.beq n 6) (some (oNewarr 176 8 .long 1)) (none)))
noncomputable def rw_176lll : Nat → Option Op := fun n => cond (Nat.blt n 4) (rw_176llll n) (rw_176lllr n)
noncomputable def rw_176llrl : Nat → Option Op := fun n => cond (Nat.beq n 8) (some (oPut 176 11 3 8 (.array .long))) (cond (Nat.beq n 11) (some (oLoad 176 12 0 4)) (cond (Nat.beq n 12) (some (oPush 176 13 (.int (Int32.ofInt (-1))))) (none)))
noncomputable def rw_176llrr : Nat → Option Op := fun n => cond (Nat.beq n 13) (some (oPut 176 16 3 10 .int)) (cond (Nat.beq n 16) (some (oLoad 176 17 0 4)) (cond (Nat.beq n 17) (some (oPush 176 18 (.int (Int32.ofInt (-1))))) (none)))
noncomputable def rw_176llr : Nat → Option Op := fun n => cond (Nat.blt n 13) (rw_176llrl n) (rw_176llrr n)
noncomputable def rw_176ll : Nat → Option Op := fun n => cond (Nat.blt n 8) (rw_176lll n) (rw_176llr n)
noncomputable def rw_176lrll : Nat → Option Op := fun n => cond (Nat.beq n 18) (some (oPut 176 21 3 12 .int)) (cond (Nat.beq n 21) (some (oLoad 176 22 0 4)) (cond (Nat.beq n 22) (some (oLoad 176 23 1 0)) (none)))
noncomputable def rw_176lrlr : Nat → Option Op := fun n => cond (Nat.beq n 23) (some (oPut 176 26 3 0 .int)) (cond (Nat.beq n 26) (some (oLoad 176 27 0 4)) (cond (Nat.beq n 27) (some (oLoad 176 28 2 0)) (none)))
noncomputable def rw_176lrl : Nat → Option Op := fun n => cond (Nat.blt n 23) (rw_176lrll n) (rw_176lrlr n)
noncomputable def rw_176lrrl : Nat → Option Op := fun n => cond (Nat.beq n 28) (some (oPut 176 31 3 1 .int)) (cond (Nat.beq n 31) (some (oLoad 176 32 0 4)) (cond (Nat.beq n 32) (some (oLoad 176 33 3 0)) (none)))
noncomputable def rw_176lrrr : Nat → Option Op := fun n => cond (Nat.beq n 33) (some (oPut 176 36 3 4 .char)) (cond (Nat.beq n 36) (some (oLoad 176 37 0 4)) (cond (Nat.beq n 37) (some (oLoad 176 39 4 4)) (none)))
noncomputable def rw_176lrr : Nat → Option Op := fun n => cond (Nat.blt n 33) (rw_176lrrl n) (rw_176lrrr n)
noncomputable def rw_176lr : Nat → Option Op := fun n => cond (Nat.blt n 28) (rw_176lrl n) (rw_176lrr n)
noncomputable def rw_176l : Nat → Option Op := fun n => cond (Nat.blt n 18) (rw_176ll n) (rw_176lr n)
noncomputable def rw_176rlll : Nat → Option Op := fun n => cond (Nat.beq n 39) (some (oPut 176 42 3 5 (.object "MiterhouseModel$Line"))) (cond (Nat.beq n 42) (some (oLoad 176 43 0 4)) (none))
noncomputable def rw_176rllr : Nat → Option Op := fun n => cond (Nat.beq n 43) (some (oLoad 176 45 5 4)) (cond (Nat.beq n 45) (some (oPut 176 48 3 6 (.object "MiterhouseModel$Line"))) (cond (Nat.beq n 48) (some (oLoad 176 49 0 4)) (none)))
noncomputable def rw_176rll : Nat → Option Op := fun n => cond (Nat.blt n 43) (rw_176rlll n) (rw_176rllr n)
noncomputable def rw_176rlrl : Nat → Option Op := fun n => cond (Nat.beq n 49) (some (oLoad 176 51 6 0)) (cond (Nat.beq n 51) (some (oPut 176 54 3 2 .int)) (cond (Nat.beq n 54) (some (oLoad 176 55 0 4)) (none)))
noncomputable def rw_176rlrr : Nat → Option Op := fun n => cond (Nat.beq n 55) (some (oLoad 176 57 7 0)) (cond (Nat.beq n 57) (some (oPut 176 60 3 3 .int)) (cond (Nat.beq n 60) (some (oLoad 176 61 0 4)) (none)))
noncomputable def rw_176rlr : Nat → Option Op := fun n => cond (Nat.blt n 55) (rw_176rlrl n) (rw_176rlrr n)
noncomputable def rw_176rl : Nat → Option Op := fun n => cond (Nat.blt n 49) (rw_176rll n) (rw_176rlr n)
noncomputable def rw_176rrll : Nat → Option Op := fun n => cond (Nat.beq n 61) (some (oLoad 176 62 3 0)) (cond (Nat.beq n 62) (some (oPush 176 64 (.int (Int32.ofInt (99))))) (cond (Nat.beq n 64) (some (oCmp2 176 67 93 .eq)) (none)))
noncomputable def rw_176rrlr : Nat → Option Op := fun n => cond (Nat.beq n 67) (some (oLoad 176 69 4 4)) (cond (Nat.beq n 69) (some (oNull 176 72 80 true)) (cond (Nat.beq n 80) (some (oLoad 176 82 5 4)) (none)))
noncomputable def rw_176rrl : Nat → Option Op := fun n => cond (Nat.blt n 67) (rw_176rrll n) (rw_176rrlr n)
noncomputable def rw_176rrrl : Nat → Option Op := fun n => cond (Nat.beq n 82) (some (oNull 176 85 97 true)) (cond (Nat.beq n 93) (some (oPush 176 94 (.int (Int32.ofInt (1))))) (cond (Nat.beq n 94) (some (oGoto 176 98)) (none)))
noncomputable def rw_176rrrr : Nat → Option Op := fun n => cond (Nat.beq n 97) (some (oPush 176 98 (.int (Int32.ofInt (0))))) (cond (Nat.beq n 98) (some (oPut 176 101 3 7 .boolean)) (cond (Nat.beq n 101) (some (oRet0)) (none)))
noncomputable def rw_176rrr : Nat → Option Op := fun n => cond (Nat.blt n 97) (rw_176rrrl n) (rw_176rrrr n)
noncomputable def rw_176rr : Nat → Option Op := fun n => cond (Nat.blt n 82) (rw_176rrl n) (rw_176rrr n)
noncomputable def rw_176r : Nat → Option Op := fun n => cond (Nat.blt n 61) (rw_176rl n) (rw_176rr n)
noncomputable def rw_176 : Nat → Option Op := fun n => cond (Nat.blt n 39) (rw_176l n) (rw_176r n)
noncomputable def rw_177l : Nat → Option Op := fun n => cond (Nat.beq n 0) (some (oLoad 177 1 0 0)) (cond (Nat.beq n 1) (some (oLoad 177 2 1 0)) (cond (Nat.beq n 2) (some (oCmp2 177 5 9 .lt)) (none)))
noncomputable def rw_177r : Nat → Option Op := fun n => cond (Nat.beq n 5) (some (oLoad 177 6 0 0)) (cond (Nat.beq n 6) (some (oGoto 177 10)) (cond (Nat.beq n 10) (some (oRet .int 0)) (none)))
noncomputable def rw_177 : Nat → Option Op := fun n => cond (Nat.blt n 5) (rw_177l n) (rw_177r n)
noncomputable def rw_178 : Nat → Option Op := fun n => cond (Nat.beq n 0) (some (oLoad 178 1 0 4)) (cond (Nat.beq n 1) (some (oObj 178 4)) (cond (Nat.beq n 4) (some (oRet0)) (none)))
noncomputable def rw_179l : Nat → Option Op := fun n => cond (Nat.beq n 0) (some (oLoad 179 1 0 4)) (cond (Nat.beq n 1) (some (oCall (runC 178) 179 4 3 1 0 1 hdN)) (cond (Nat.beq n 4) (some (oLoad 179 5 0 4)) (none)))
noncomputable def rw_179r : Nat → Option Op := fun n => cond (Nat.beq n 5) (some (oPush 179 6 (.int (Int32.ofInt (0))))) (cond (Nat.beq n 6) (some (oPut 179 9 4 2 .int)) (cond (Nat.beq n 9) (some (oRet0)) (none)))
noncomputable def rw_179 : Nat → Option Op := fun n => cond (Nat.blt n 5) (rw_179l n) (rw_179r n)
noncomputable def rw_180l : Nat → Option Op := fun n => cond (Nat.beq n 0) (some (oLoad 180 1 0 4)) (cond (Nat.beq n 1) (some (oCall (runC 179) 180 4 3 1 0 1 hdN)) (cond (Nat.beq n 4) (some (oLoad 180 5 0 4)) (none)))
noncomputable def rw_180r : Nat → Option Op := fun n => cond (Nat.beq n 5) (some (oPush 180 8 (.retAddr 3))) (cond (Nat.beq n 8) (some (oPut 180 11 4 0 (.array (.object "java/lang/Object")))) (cond (Nat.beq n 11) (some (oRet0)) (none)))
noncomputable def rw_180 : Nat → Option Op := fun n => cond (Nat.blt n 5) (rw_180l n) (rw_180r n)
noncomputable def rw_181ll : Nat → Option Op := fun n => cond (Nat.beq n 0) (some (oLoad 181 1 0 4)) (cond (Nat.beq n 1) (some (oDup 181 2)) (cond (Nat.beq n 2) (some (oGet 181 5 4 2)) (none)))
noncomputable def rw_181lr : Nat → Option Op := fun n => cond (Nat.beq n 5) (some (oPush 181 6 (.int (Int32.ofInt (1))))) (cond (Nat.beq n 6) (some (oBin sdv 181 7 0)) (cond (Nat.beq n 7) (some (oPut 181 10 4 2 .int)) (cond (Nat.beq n 10) (some (oLoad 181 11 0 4)) (none))))
noncomputable def rw_181l : Nat → Option Op := fun n => cond (Nat.blt n 5) (rw_181ll n) (rw_181lr n)
noncomputable def rw_181rl : Nat → Option Op := fun n => cond (Nat.beq n 11) (some (oLoad 181 12 1 4)) (cond (Nat.beq n 12) (some (oLoad 181 13 0 4)) (cond (Nat.beq n 13) (some (oGet 181 16 4 0)) (cond (Nat.beq n 16) (some (oLoad 181 17 0 4)) (none))))
noncomputable def rw_181rr : Nat → Option Op := fun n => cond (Nat.beq n 17) (some (oGet 181 20 4 1)) (cond (Nat.beq n 20) (some (oCall (runC 182) 181 23 2 4 4 4 hdN)) (cond (Nat.beq n 23) (some (oPush 181 24 (.int (Int32.ofInt (1))))) (cond (Nat.beq n 24) (some (oRet .boolean 0)) (none))))
noncomputable def rw_181r : Nat → Option Op := fun n => cond (Nat.blt n 17) (rw_181rl n) (rw_181rr n)
noncomputable def rw_181 : Nat → Option Op := fun n => cond (Nat.blt n 11) (rw_181l n) (rw_181r n)
noncomputable def rw_182ll : Nat → Option Op := fun n => cond (Nat.beq n 0) (some (oLoad 182 1 3 0)) (cond (Nat.beq n 1) (some (oLoad 182 2 2 4)) (cond (Nat.beq n 2) (some (oLen slen 182 3)) (cond (Nat.beq n 3) (some (oCmp2 182 6 11 .ne)) (none))))
noncomputable def rw_182lr : Nat → Option Op := fun n => cond (Nat.beq n 6) (some (oLoad 182 7 0 4)) (cond (Nat.beq n 7) (some (oCall (runC 185) 182 10 2 1 4 1 hdN)) (cond (Nat.beq n 10) (some (oStore 182 11 2 4)) (cond (Nat.beq n 11) (some (oLoad 182 12 2 4)) (none))))
noncomputable def rw_182l : Nat → Option Op := fun n => cond (Nat.blt n 6) (rw_182ll n) (rw_182lr n)
noncomputable def rw_182rl : Nat → Option Op := fun n => cond (Nat.beq n 12) (some (oLoad 182 13 3 0)) (cond (Nat.beq n 13) (some (oLoad 182 14 1 4)) (cond (Nat.beq n 14) (some (oAast 182 15 [3, 4] (.object "java/lang/Object"))) (cond (Nat.beq n 15) (some (oLoad 182 16 0 4)) (none))))
noncomputable def rw_182rrl : Nat → Option Op := fun n => cond (Nat.beq n 16) (some (oLoad 182 17 3 0)) (cond (Nat.beq n 17) (some (oPush 182 18 (.int (Int32.ofInt (1))))) (none))
noncomputable def rw_182rrr : Nat → Option Op := fun n => cond (Nat.beq n 18) (some (oBin sdv 182 19 0)) (cond (Nat.beq n 19) (some (oPut 182 22 4 1 .int)) (cond (Nat.beq n 22) (some (oRet0)) (none)))
noncomputable def rw_182rr : Nat → Option Op := fun n => cond (Nat.blt n 18) (rw_182rrl n) (rw_182rrr n)
noncomputable def rw_182r : Nat → Option Op := fun n => cond (Nat.blt n 16) (rw_182rl n) (rw_182rr n)
noncomputable def rw_182 : Nat → Option Op := fun n => cond (Nat.blt n 12) (rw_182l n) (rw_182r n)
noncomputable def rw_183l : Nat → Option Op := fun n => cond (Nat.beq n 0) (some (oLoad 183 1 0 4)) (cond (Nat.beq n 1) (some (oGet 183 4 4 0)) (none))
noncomputable def rw_183r : Nat → Option Op := fun n => cond (Nat.beq n 4) (some (oLoad 183 5 1 0)) (cond (Nat.beq n 5) (some (oAald 183 6)) (cond (Nat.beq n 6) (some (oRet (.object "java/lang/Object") 4)) (none)))
noncomputable def rw_183 : Nat → Option Op := fun n => cond (Nat.blt n 4) (rw_183l n) (rw_183r n)
noncomputable def rw_184l : Nat → Option Op := fun n => cond (Nat.beq n 0) (some (oLoad 184 1 1 0)) (cond (Nat.beq n 1) (some (oLoad 184 2 0 4)) (cond (Nat.beq n 2) (some (oGet 184 5 4 1)) (cond (Nat.beq n 5) (some (oCall (runC 192) 184 8 1 2 0 2 hdN)) (none))))
noncomputable def rw_184rl : Nat → Option Op := fun n => cond (Nat.beq n 8) (some (oPop 184 9)) (cond (Nat.beq n 9) (some (oLoad 184 10 0 4)) (none))
noncomputable def rw_184rr : Nat → Option Op := fun n => cond (Nat.beq n 10) (some (oLoad 184 11 1 0)) (cond (Nat.beq n 11) (some (oCall (runC 183) 184 14 2 2 4 2 hdN)) (cond (Nat.beq n 14) (some (oRet (.object "java/lang/Object") 4)) (none)))
noncomputable def rw_184r : Nat → Option Op := fun n => cond (Nat.blt n 10) (rw_184rl n) (rw_184rr n)
noncomputable def rw_184 : Nat → Option Op := fun n => cond (Nat.blt n 8) (rw_184l n) (rw_184r n)
noncomputable def rw_185l : Nat → Option Op := fun n => cond (Nat.beq n 0) (some (oLoad 185 1 0 4)) (cond (Nat.beq n 1) (some (oLoad 185 2 0 4)) (cond (Nat.beq n 2) (some (oGet 185 5 4 1)) (none)))
noncomputable def rw_185r : Nat → Option Op := fun n => cond (Nat.beq n 5) (some (oPush 185 6 (.int (Int32.ofInt (1))))) (cond (Nat.beq n 6) (some (oBin sdv 185 7 0)) (cond (Nat.beq n 7) (some (oCall (runC 186) 185 10 2 2 4 4 hdN)) (cond (Nat.beq n 10) (some (oRet (.array (.object "java/lang/Object")) 4)) (none))))
noncomputable def rw_185 : Nat → Option Op := fun n => cond (Nat.blt n 5) (rw_185l n) (rw_185r n)
noncomputable def rw_186ll : Nat → Option Op := fun n => cond (Nat.beq n 0) (some (oLoad 186 1 0 4)) (cond (Nat.beq n 1) (some (oGet 186 4 4 0)) (cond (Nat.beq n 4) (some (oLen slen 186 5)) (cond (Nat.beq n 5) (some (oStore 186 6 2 0)) (none))))
noncomputable def rw_186lrl : Nat → Option Op := fun n => cond (Nat.beq n 6) (some (oLoad 186 7 2 0)) (cond (Nat.beq n 7) (some (oCmp1 186 10 20 .gt)) (none))
noncomputable def rw_186lrr : Nat → Option Op := fun n => cond (Nat.beq n 10) (some (oLoad 186 11 0 4)) (cond (Nat.beq n 11) (some (oGet 186 14 4 0)) (cond (Nat.beq n 14) (some (oPush 186 17 (.retAddr 3))) (none)))
noncomputable def rw_186lr : Nat → Option Op := fun n => cond (Nat.blt n 10) (rw_186lrl n) (rw_186lrr n)
noncomputable def rw_186l : Nat → Option Op := fun n => cond (Nat.blt n 6) (rw_186ll n) (rw_186lr n)
noncomputable def rw_186rl : Nat → Option Op := fun n => cond (Nat.beq n 17) (some (oAcmp 186 20 45 true)) (cond (Nat.beq n 45) (some (oLoad 186 46 0 4)) (cond (Nat.beq n 46) (some (oPush 186 48 (.int (Int32.ofInt (10))))) (cond (Nat.beq n 48) (some (oLoad 186 49 1 0)) (none))))
noncomputable def rw_186rrl : Nat → Option Op := fun n => cond (Nat.beq n 49) (some (oCall (runC 177) 186 52 1 2 0 2 hdN)) (cond (Nat.beq n 52) (some (oAnew 186 55 (.object "java/lang/Object"))) (none))
noncomputable def rw_186rrr : Nat → Option Op := fun n => cond (Nat.beq n 55) (some (oDupX1 186 56)) (cond (Nat.beq n 56) (some (oPut 186 59 4 0 (.array (.object "java/lang/Object")))) (cond (Nat.beq n 59) (some (oRet (.array (.object "java/lang/Object")) 4)) (none)))
noncomputable def rw_186rr : Nat → Option Op := fun n => cond (Nat.blt n 55) (rw_186rrl n) (rw_186rrr n)
noncomputable def rw_186r : Nat → Option Op := fun n => cond (Nat.blt n 49) (rw_186rl n) (rw_186rr n)
noncomputable def rw_186 : Nat → Option Op := fun n => cond (Nat.blt n 17) (rw_186l n) (rw_186r n)
noncomputable def rw_187l : Nat → Option Op := fun n => cond (Nat.beq n 0) (some (oLoad 187 1 0 4)) (cond (Nat.beq n 1) (some (oGet 187 4 4 1)) (cond (Nat.beq n 4) (some (oCmp1 187 7 11 .ne)) (none)))
noncomputable def rw_187r : Nat → Option Op := fun n => cond (Nat.beq n 7) (some (oPush 187 8 (.int (Int32.ofInt (1))))) (cond (Nat.beq n 8) (some (oGoto 187 12)) (cond (Nat.beq n 12) (some (oRet .boolean 0)) (none)))
noncomputable def rw_187 : Nat → Option Op := fun n => cond (Nat.blt n 7) (rw_187l n) (rw_187r n)
noncomputable def rw_188l : Nat → Option Op := fun n => cond (Nat.beq n 0) (some (oNew 188 3 5 4 [.int 0, .int 0, .int 0, .null])) (cond (Nat.beq n 3) (some (oDup 188 4)) (none))
noncomputable def rw_188r : Nat → Option Op := fun n => cond (Nat.beq n 4) (some (oLoad 188 5 0 4)) (cond (Nat.beq n 5) (some (oCall (runC 190) 188 8 3 2 0 2 hdN)) (cond (Nat.beq n 8) (some (oRet (.object "java/util/Iterator") 4)) (none)))
noncomputable def rw_188 : Nat → Option Op := fun n => cond (Nat.blt n 4) (rw_188l n) (rw_188r n)
noncomputable def rw_189 : Nat → Option Op := fun n => cond (Nat.beq n 0) (some (oLoad 189 1 0 4)) (cond (Nat.beq n 1) (some (oGet 189 4 4 1)) (cond (Nat.beq n 4) (some (oRet .int 0)) (none)))
noncomputable def rw_190ll : Nat → Option Op := fun n => cond (Nat.beq n 0) (some (oLoad 190 1 0 4)) (cond (Nat.beq n 1) (some (oLoad 190 2 1 4)) (cond (Nat.beq n 2) (some (oPut 190 5 5 3 (.object "java/util/ArrayList"))) (none)))
noncomputable def rw_190lr : Nat → Option Op := fun n => cond (Nat.beq n 5) (some (oLoad 190 6 0 4)) (cond (Nat.beq n 6) (some (oObj 190 9)) (cond (Nat.beq n 9) (some (oLoad 190 10 0 4)) (cond (Nat.beq n 10) (some (oPush 190 11 (.int (Int32.ofInt (-1))))) (none))))
noncomputable def rw_190l : Nat → Option Op := fun n => cond (Nat.blt n 5) (rw_190ll n) (rw_190lr n)
noncomputable def rw_190rl : Nat → Option Op := fun n => cond (Nat.beq n 11) (some (oPut 190 14 5 1 .int)) (cond (Nat.beq n 14) (some (oLoad 190 15 0 4)) (cond (Nat.beq n 15) (some (oLoad 190 16 0 4)) (none)))
noncomputable def rw_190rr : Nat → Option Op := fun n => cond (Nat.beq n 16) (some (oGet 190 19 5 3)) (cond (Nat.beq n 19) (some (oGet 190 22 4 2)) (cond (Nat.beq n 22) (some (oPut 190 25 5 2 .int)) (cond (Nat.beq n 25) (some (oRet0)) (none))))
noncomputable def rw_190r : Nat → Option Op := fun n => cond (Nat.blt n 16) (rw_190rl n) (rw_190rr n)
noncomputable def rw_190 : Nat → Option Op := fun n => cond (Nat.blt n 11) (rw_190l n) (rw_190r n)
noncomputable def rw_191l : Nat → Option Op := fun n => cond (Nat.beq n 0) (some (oLoad 191 1 0 4)) (cond (Nat.beq n 1) (some (oGet 191 4 5 0)) (cond (Nat.beq n 4) (some (oLoad 191 5 0 4)) (cond (Nat.beq n 5) (some (oGet 191 8 5 3)) (none))))
noncomputable def rw_191r : Nat → Option Op := fun n => cond (Nat.beq n 8) (some (oGet 191 11 4 1)) (cond (Nat.beq n 11) (some (oCmp2 191 14 18 .eq)) (cond (Nat.beq n 18) (some (oPush 191 19 (.int (Int32.ofInt (0))))) (cond (Nat.beq n 19) (some (oRet .boolean 0)) (none))))
noncomputable def rw_191 : Nat → Option Op := fun n => cond (Nat.blt n 8) (rw_191l n) (rw_191r n)
noncomputable def rw_192l : Nat → Option Op := fun n => cond (Nat.beq n 0) (some (oLoad 192 1 0 0)) (cond (Nat.beq n 1) (some (oLoad 192 2 1 0)) (none))
noncomputable def rw_192r : Nat → Option Op := fun n => cond (Nat.beq n 2) (some (oPush 192 3 (.null))) (cond (Nat.beq n 3) (some (oCall (runC 193) 192 6 1 3 0 3 hdN)) (cond (Nat.beq n 6) (some (oRet .int 0)) (none)))
noncomputable def rw_192 : Nat → Option Op := fun n => cond (Nat.blt n 2) (rw_192l n) (rw_192r n)
noncomputable def rw_193l : Nat → Option Op := fun n => cond (Nat.beq n 0) (some (oLoad 193 1 0 0)) (cond (Nat.beq n 1) (some (oCmp1 193 4 9 .lt)) (cond (Nat.beq n 4) (some (oLoad 193 5 0 0)) (none)))
noncomputable def rw_193r : Nat → Option Op := fun n => cond (Nat.beq n 5) (some (oLoad 193 6 1 0)) (cond (Nat.beq n 6) (some (oCmp2 193 9 16 .lt)) (cond (Nat.beq n 16) (some (oLoad 193 17 0 0)) (cond (Nat.beq n 17) (some (oRet .int 0)) (none))))
noncomputable def rw_193 : Nat → Option Op := fun n => cond (Nat.blt n 5) (rw_193l n) (rw_193r n)
noncomputable def rw_194 : Nat → Option Op := fun n => none
noncomputable def rw_195 : Nat → Option Op := fun n => none
noncomputable def rw_196 : Nat → Option Op := fun n => none
noncomputable def rowMllllll : Nat → Nat → Option Op := fun n => cond (Nat.beq n 0) rw_0 (cond (Nat.beq n 1) rw_1 (cond (Nat.beq n 2) rw_2 (fun _ => none)))
noncomputable def rowMlllllr : Nat → Nat → Option Op := fun n => cond (Nat.beq n 3) rw_3 (cond (Nat.beq n 4) rw_4 (cond (Nat.beq n 5) rw_5 (fun _ => none)))
noncomputable def rowMlllll : Nat → Nat → Option Op := fun n => cond (Nat.blt n 3) (rowMllllll n) (rowMlllllr n)
noncomputable def rowMllllrl : Nat → Nat → Option Op := fun n => cond (Nat.beq n 6) rw_6 (cond (Nat.beq n 7) rw_7 (cond (Nat.beq n 8) rw_8 (fun _ => none)))
noncomputable def rowMllllrr : Nat → Nat → Option Op := fun n => cond (Nat.beq n 9) rw_9 (cond (Nat.beq n 10) rw_10 (cond (Nat.beq n 11) rw_11 (fun _ => none)))
noncomputable def rowMllllr : Nat → Nat → Option Op := fun n => cond (Nat.blt n 9) (rowMllllrl n) (rowMllllrr n)
noncomputable def rowMllll : Nat → Nat → Option Op := fun n => cond (Nat.blt n 6) (rowMlllll n) (rowMllllr n)
noncomputable def rowMlllrll : Nat → Nat → Option Op := fun n => cond (Nat.beq n 12) rw_12 (cond (Nat.beq n 13) rw_13 (cond (Nat.beq n 14) rw_14 (fun _ => none)))
noncomputable def rowMlllrlr : Nat → Nat → Option Op := fun n => cond (Nat.beq n 15) rw_15 (cond (Nat.beq n 16) rw_16 (cond (Nat.beq n 17) rw_17 (fun _ => none)))
noncomputable def rowMlllrl : Nat → Nat → Option Op := fun n => cond (Nat.blt n 15) (rowMlllrll n) (rowMlllrlr n)
noncomputable def rowMlllrrl : Nat → Nat → Option Op := fun n => cond (Nat.beq n 18) rw_18 (cond (Nat.beq n 19) rw_19 (cond (Nat.beq n 20) rw_20 (fun _ => none)))
noncomputable def rowMlllrrr : Nat → Nat → Option Op := fun n => cond (Nat.beq n 21) rw_21 (cond (Nat.beq n 22) rw_22 (cond (Nat.beq n 23) rw_23 (fun _ => none)))
noncomputable def rowMlllrr : Nat → Nat → Option Op := fun n => cond (Nat.blt n 21) (rowMlllrrl n) (rowMlllrrr n)
noncomputable def rowMlllr : Nat → Nat → Option Op := fun n => cond (Nat.blt n 18) (rowMlllrl n) (rowMlllrr n)
noncomputable def rowMlll : Nat → Nat → Option Op := fun n => cond (Nat.blt n 12) (rowMllll n) (rowMlllr n)
noncomputable def rowMllrlll : Nat → Nat → Option Op := fun n => cond (Nat.beq n 24) rw_24 (cond (Nat.beq n 25) rw_25 (cond (Nat.beq n 26) rw_26 (fun _ => none)))
noncomputable def rowMllrllr : Nat → Nat → Option Op := fun n => cond (Nat.beq n 27) rw_27 (cond (Nat.beq n 28) rw_28 (cond (Nat.beq n 29) rw_29 (fun _ => none)))
noncomputable def rowMllrll : Nat → Nat → Option Op := fun n => cond (Nat.blt n 27) (rowMllrlll n) (rowMllrllr n)
noncomputable def rowMllrlrl : Nat → Nat → Option Op := fun n => cond (Nat.beq n 30) rw_30 (cond (Nat.beq n 31) rw_31 (cond (Nat.beq n 32) rw_32 (fun _ => none)))
noncomputable def rowMllrlrr : Nat → Nat → Option Op := fun n => cond (Nat.beq n 33) rw_33 (cond (Nat.beq n 34) rw_34 (cond (Nat.beq n 35) rw_35 (fun _ => none)))
noncomputable def rowMllrlr : Nat → Nat → Option Op := fun n => cond (Nat.blt n 33) (rowMllrlrl n) (rowMllrlrr n)
noncomputable def rowMllrl : Nat → Nat → Option Op := fun n => cond (Nat.blt n 30) (rowMllrll n) (rowMllrlr n)
noncomputable def rowMllrrll : Nat → Nat → Option Op := fun n => cond (Nat.beq n 36) rw_36 (cond (Nat.beq n 37) rw_37 (cond (Nat.beq n 38) rw_38 (fun _ => none)))
noncomputable def rowMllrrlr : Nat → Nat → Option Op := fun n => cond (Nat.beq n 39) rw_39 (cond (Nat.beq n 40) rw_40 (cond (Nat.beq n 41) rw_41 (fun _ => none)))
noncomputable def rowMllrrl : Nat → Nat → Option Op := fun n => cond (Nat.blt n 39) (rowMllrrll n) (rowMllrrlr n)
noncomputable def rowMllrrrl : Nat → Nat → Option Op := fun n => cond (Nat.beq n 42) rw_42 (cond (Nat.beq n 43) rw_43 (cond (Nat.beq n 44) rw_44 (fun _ => none)))
noncomputable def rowMllrrrr : Nat → Nat → Option Op := fun n => cond (Nat.beq n 45) rw_45 (cond (Nat.beq n 46) rw_46 (cond (Nat.beq n 47) rw_47 (cond (Nat.beq n 48) rw_48 (fun _ => none))))
noncomputable def rowMllrrr : Nat → Nat → Option Op := fun n => cond (Nat.blt n 45) (rowMllrrrl n) (rowMllrrrr n)
noncomputable def rowMllrr : Nat → Nat → Option Op := fun n => cond (Nat.blt n 42) (rowMllrrl n) (rowMllrrr n)
noncomputable def rowMllr : Nat → Nat → Option Op := fun n => cond (Nat.blt n 36) (rowMllrl n) (rowMllrr n)
noncomputable def rowMll : Nat → Nat → Option Op := fun n => cond (Nat.blt n 24) (rowMlll n) (rowMllr n)
noncomputable def rowMlrllll : Nat → Nat → Option Op := fun n => cond (Nat.beq n 49) rw_49 (cond (Nat.beq n 50) rw_50 (cond (Nat.beq n 51) rw_51 (fun _ => none)))
noncomputable def rowMlrlllr : Nat → Nat → Option Op := fun n => cond (Nat.beq n 52) rw_52 (cond (Nat.beq n 53) rw_53 (cond (Nat.beq n 54) rw_54 (fun _ => none)))
noncomputable def rowMlrlll : Nat → Nat → Option Op := fun n => cond (Nat.blt n 52) (rowMlrllll n) (rowMlrlllr n)
noncomputable def rowMlrllrl : Nat → Nat → Option Op := fun n => cond (Nat.beq n 55) rw_55 (cond (Nat.beq n 56) rw_56 (cond (Nat.beq n 57) rw_57 (fun _ => none)))
noncomputable def rowMlrllrr : Nat → Nat → Option Op := fun n => cond (Nat.beq n 58) rw_58 (cond (Nat.beq n 59) rw_59 (cond (Nat.beq n 60) rw_60 (fun _ => none)))
noncomputable def rowMlrllr : Nat → Nat → Option Op := fun n => cond (Nat.blt n 58) (rowMlrllrl n) (rowMlrllrr n)
noncomputable def rowMlrll : Nat → Nat → Option Op := fun n => cond (Nat.blt n 55) (rowMlrlll n) (rowMlrllr n)
noncomputable def rowMlrlrll : Nat → Nat → Option Op := fun n => cond (Nat.beq n 61) rw_61 (cond (Nat.beq n 62) rw_62 (cond (Nat.beq n 63) rw_63 (fun _ => none)))
noncomputable def rowMlrlrlr : Nat → Nat → Option Op := fun n => cond (Nat.beq n 64) rw_64 (cond (Nat.beq n 65) rw_65 (cond (Nat.beq n 66) rw_66 (fun _ => none)))
noncomputable def rowMlrlrl : Nat → Nat → Option Op := fun n => cond (Nat.blt n 64) (rowMlrlrll n) (rowMlrlrlr n)
noncomputable def rowMlrlrrl : Nat → Nat → Option Op := fun n => cond (Nat.beq n 67) rw_67 (cond (Nat.beq n 68) rw_68 (cond (Nat.beq n 69) rw_69 (fun _ => none)))
noncomputable def rowMlrlrrr : Nat → Nat → Option Op := fun n => cond (Nat.beq n 70) rw_70 (cond (Nat.beq n 71) rw_71 (cond (Nat.beq n 72) rw_72 (fun _ => none)))
noncomputable def rowMlrlrr : Nat → Nat → Option Op := fun n => cond (Nat.blt n 70) (rowMlrlrrl n) (rowMlrlrrr n)
noncomputable def rowMlrlr : Nat → Nat → Option Op := fun n => cond (Nat.blt n 67) (rowMlrlrl n) (rowMlrlrr n)
noncomputable def rowMlrl : Nat → Nat → Option Op := fun n => cond (Nat.blt n 61) (rowMlrll n) (rowMlrlr n)
noncomputable def rowMlrrlll : Nat → Nat → Option Op := fun n => cond (Nat.beq n 73) rw_73 (cond (Nat.beq n 74) rw_74 (cond (Nat.beq n 75) rw_75 (fun _ => none)))
noncomputable def rowMlrrllr : Nat → Nat → Option Op := fun n => cond (Nat.beq n 76) rw_76 (cond (Nat.beq n 77) rw_77 (cond (Nat.beq n 78) rw_78 (fun _ => none)))
noncomputable def rowMlrrll : Nat → Nat → Option Op := fun n => cond (Nat.blt n 76) (rowMlrrlll n) (rowMlrrllr n)
noncomputable def rowMlrrlrl : Nat → Nat → Option Op := fun n => cond (Nat.beq n 79) rw_79 (cond (Nat.beq n 80) rw_80 (cond (Nat.beq n 81) rw_81 (fun _ => none)))
noncomputable def rowMlrrlrr : Nat → Nat → Option Op := fun n => cond (Nat.beq n 82) rw_82 (cond (Nat.beq n 83) rw_83 (cond (Nat.beq n 84) rw_84 (fun _ => none)))
noncomputable def rowMlrrlr : Nat → Nat → Option Op := fun n => cond (Nat.blt n 82) (rowMlrrlrl n) (rowMlrrlrr n)
noncomputable def rowMlrrl : Nat → Nat → Option Op := fun n => cond (Nat.blt n 79) (rowMlrrll n) (rowMlrrlr n)
noncomputable def rowMlrrrll : Nat → Nat → Option Op := fun n => cond (Nat.beq n 85) rw_85 (cond (Nat.beq n 86) rw_86 (cond (Nat.beq n 87) rw_87 (fun _ => none)))
noncomputable def rowMlrrrlr : Nat → Nat → Option Op := fun n => cond (Nat.beq n 88) rw_88 (cond (Nat.beq n 89) rw_89 (cond (Nat.beq n 90) rw_90 (fun _ => none)))
noncomputable def rowMlrrrl : Nat → Nat → Option Op := fun n => cond (Nat.blt n 88) (rowMlrrrll n) (rowMlrrrlr n)
noncomputable def rowMlrrrrl : Nat → Nat → Option Op := fun n => cond (Nat.beq n 91) rw_91 (cond (Nat.beq n 92) rw_92 (cond (Nat.beq n 93) rw_93 (fun _ => none)))
noncomputable def rowMlrrrrr : Nat → Nat → Option Op := fun n => cond (Nat.beq n 94) rw_94 (cond (Nat.beq n 95) rw_95 (cond (Nat.beq n 96) rw_96 (cond (Nat.beq n 97) rw_97 (fun _ => none))))
noncomputable def rowMlrrrr : Nat → Nat → Option Op := fun n => cond (Nat.blt n 94) (rowMlrrrrl n) (rowMlrrrrr n)
noncomputable def rowMlrrr : Nat → Nat → Option Op := fun n => cond (Nat.blt n 91) (rowMlrrrl n) (rowMlrrrr n)
noncomputable def rowMlrr : Nat → Nat → Option Op := fun n => cond (Nat.blt n 85) (rowMlrrl n) (rowMlrrr n)
noncomputable def rowMlr : Nat → Nat → Option Op := fun n => cond (Nat.blt n 73) (rowMlrl n) (rowMlrr n)
noncomputable def rowMl : Nat → Nat → Option Op := fun n => cond (Nat.blt n 49) (rowMll n) (rowMlr n)
noncomputable def rowMrlllll : Nat → Nat → Option Op := fun n => cond (Nat.beq n 98) rw_98 (cond (Nat.beq n 99) rw_99 (cond (Nat.beq n 100) rw_100 (fun _ => none)))
noncomputable def rowMrllllr : Nat → Nat → Option Op := fun n => cond (Nat.beq n 101) rw_101 (cond (Nat.beq n 102) rw_102 (cond (Nat.beq n 103) rw_103 (fun _ => none)))
noncomputable def rowMrllll : Nat → Nat → Option Op := fun n => cond (Nat.blt n 101) (rowMrlllll n) (rowMrllllr n)
noncomputable def rowMrlllrl : Nat → Nat → Option Op := fun n => cond (Nat.beq n 104) rw_104 (cond (Nat.beq n 105) rw_105 (cond (Nat.beq n 106) rw_106 (fun _ => none)))
noncomputable def rowMrlllrr : Nat → Nat → Option Op := fun n => cond (Nat.beq n 107) rw_107 (cond (Nat.beq n 108) rw_108 (cond (Nat.beq n 109) rw_109 (fun _ => none)))
noncomputable def rowMrlllr : Nat → Nat → Option Op := fun n => cond (Nat.blt n 107) (rowMrlllrl n) (rowMrlllrr n)
noncomputable def rowMrlll : Nat → Nat → Option Op := fun n => cond (Nat.blt n 104) (rowMrllll n) (rowMrlllr n)
noncomputable def rowMrllrll : Nat → Nat → Option Op := fun n => cond (Nat.beq n 110) rw_110 (cond (Nat.beq n 111) rw_111 (cond (Nat.beq n 112) rw_112 (fun _ => none)))
noncomputable def rowMrllrlr : Nat → Nat → Option Op := fun n => cond (Nat.beq n 113) rw_113 (cond (Nat.beq n 114) rw_114 (cond (Nat.beq n 115) rw_115 (fun _ => none)))
noncomputable def rowMrllrl : Nat → Nat → Option Op := fun n => cond (Nat.blt n 113) (rowMrllrll n) (rowMrllrlr n)
noncomputable def rowMrllrrl : Nat → Nat → Option Op := fun n => cond (Nat.beq n 116) rw_116 (cond (Nat.beq n 117) rw_117 (cond (Nat.beq n 118) rw_118 (fun _ => none)))
noncomputable def rowMrllrrr : Nat → Nat → Option Op := fun n => cond (Nat.beq n 119) rw_119 (cond (Nat.beq n 120) rw_120 (cond (Nat.beq n 121) rw_121 (fun _ => none)))
noncomputable def rowMrllrr : Nat → Nat → Option Op := fun n => cond (Nat.blt n 119) (rowMrllrrl n) (rowMrllrrr n)
noncomputable def rowMrllr : Nat → Nat → Option Op := fun n => cond (Nat.blt n 116) (rowMrllrl n) (rowMrllrr n)
noncomputable def rowMrll : Nat → Nat → Option Op := fun n => cond (Nat.blt n 110) (rowMrlll n) (rowMrllr n)
noncomputable def rowMrlrlll : Nat → Nat → Option Op := fun n => cond (Nat.beq n 122) rw_122 (cond (Nat.beq n 123) rw_123 (cond (Nat.beq n 124) rw_124 (fun _ => none)))
noncomputable def rowMrlrllr : Nat → Nat → Option Op := fun n => cond (Nat.beq n 125) rw_125 (cond (Nat.beq n 126) rw_126 (cond (Nat.beq n 127) rw_127 (fun _ => none)))
noncomputable def rowMrlrll : Nat → Nat → Option Op := fun n => cond (Nat.blt n 125) (rowMrlrlll n) (rowMrlrllr n)
noncomputable def rowMrlrlrl : Nat → Nat → Option Op := fun n => cond (Nat.beq n 128) rw_128 (cond (Nat.beq n 129) rw_129 (cond (Nat.beq n 130) rw_130 (fun _ => none)))
noncomputable def rowMrlrlrr : Nat → Nat → Option Op := fun n => cond (Nat.beq n 131) rw_131 (cond (Nat.beq n 132) rw_132 (cond (Nat.beq n 133) rw_133 (fun _ => none)))
noncomputable def rowMrlrlr : Nat → Nat → Option Op := fun n => cond (Nat.blt n 131) (rowMrlrlrl n) (rowMrlrlrr n)
noncomputable def rowMrlrl : Nat → Nat → Option Op := fun n => cond (Nat.blt n 128) (rowMrlrll n) (rowMrlrlr n)
noncomputable def rowMrlrrll : Nat → Nat → Option Op := fun n => cond (Nat.beq n 134) rw_134 (cond (Nat.beq n 135) rw_135 (cond (Nat.beq n 136) rw_136 (fun _ => none)))
noncomputable def rowMrlrrlr : Nat → Nat → Option Op := fun n => cond (Nat.beq n 137) rw_137 (cond (Nat.beq n 138) rw_138 (cond (Nat.beq n 139) rw_139 (fun _ => none)))
noncomputable def rowMrlrrl : Nat → Nat → Option Op := fun n => cond (Nat.blt n 137) (rowMrlrrll n) (rowMrlrrlr n)
noncomputable def rowMrlrrrl : Nat → Nat → Option Op := fun n => cond (Nat.beq n 140) rw_140 (cond (Nat.beq n 141) rw_141 (cond (Nat.beq n 142) rw_142 (fun _ => none)))
noncomputable def rowMrlrrrr : Nat → Nat → Option Op := fun n => cond (Nat.beq n 143) rw_143 (cond (Nat.beq n 144) rw_144 (cond (Nat.beq n 145) rw_145 (cond (Nat.beq n 146) rw_146 (fun _ => none))))
noncomputable def rowMrlrrr : Nat → Nat → Option Op := fun n => cond (Nat.blt n 143) (rowMrlrrrl n) (rowMrlrrrr n)
noncomputable def rowMrlrr : Nat → Nat → Option Op := fun n => cond (Nat.blt n 140) (rowMrlrrl n) (rowMrlrrr n)
noncomputable def rowMrlr : Nat → Nat → Option Op := fun n => cond (Nat.blt n 134) (rowMrlrl n) (rowMrlrr n)
noncomputable def rowMrl : Nat → Nat → Option Op := fun n => cond (Nat.blt n 122) (rowMrll n) (rowMrlr n)
noncomputable def rowMrrllll : Nat → Nat → Option Op := fun n => cond (Nat.beq n 147) rw_147 (cond (Nat.beq n 148) rw_148 (cond (Nat.beq n 149) rw_149 (fun _ => none)))
noncomputable def rowMrrlllr : Nat → Nat → Option Op := fun n => cond (Nat.beq n 150) rw_150 (cond (Nat.beq n 151) rw_151 (cond (Nat.beq n 152) rw_152 (fun _ => none)))
noncomputable def rowMrrlll : Nat → Nat → Option Op := fun n => cond (Nat.blt n 150) (rowMrrllll n) (rowMrrlllr n)
noncomputable def rowMrrllrl : Nat → Nat → Option Op := fun n => cond (Nat.beq n 153) rw_153 (cond (Nat.beq n 154) rw_154 (cond (Nat.beq n 155) rw_155 (fun _ => none)))
noncomputable def rowMrrllrr : Nat → Nat → Option Op := fun n => cond (Nat.beq n 156) rw_156 (cond (Nat.beq n 157) rw_157 (cond (Nat.beq n 158) rw_158 (fun _ => none)))
noncomputable def rowMrrllr : Nat → Nat → Option Op := fun n => cond (Nat.blt n 156) (rowMrrllrl n) (rowMrrllrr n)
noncomputable def rowMrrll : Nat → Nat → Option Op := fun n => cond (Nat.blt n 153) (rowMrrlll n) (rowMrrllr n)
noncomputable def rowMrrlrll : Nat → Nat → Option Op := fun n => cond (Nat.beq n 159) rw_159 (cond (Nat.beq n 160) rw_160 (cond (Nat.beq n 161) rw_161 (fun _ => none)))
noncomputable def rowMrrlrlr : Nat → Nat → Option Op := fun n => cond (Nat.beq n 162) rw_162 (cond (Nat.beq n 163) rw_163 (cond (Nat.beq n 164) rw_164 (fun _ => none)))
noncomputable def rowMrrlrl : Nat → Nat → Option Op := fun n => cond (Nat.blt n 162) (rowMrrlrll n) (rowMrrlrlr n)
noncomputable def rowMrrlrrl : Nat → Nat → Option Op := fun n => cond (Nat.beq n 165) rw_165 (cond (Nat.beq n 166) rw_166 (cond (Nat.beq n 167) rw_167 (fun _ => none)))
noncomputable def rowMrrlrrr : Nat → Nat → Option Op := fun n => cond (Nat.beq n 168) rw_168 (cond (Nat.beq n 169) rw_169 (cond (Nat.beq n 170) rw_170 (cond (Nat.beq n 171) rw_171 (fun _ => none))))
noncomputable def rowMrrlrr : Nat → Nat → Option Op := fun n => cond (Nat.blt n 168) (rowMrrlrrl n) (rowMrrlrrr n)
noncomputable def rowMrrlr : Nat → Nat → Option Op := fun n => cond (Nat.blt n 165) (rowMrrlrl n) (rowMrrlrr n)
noncomputable def rowMrrl : Nat → Nat → Option Op := fun n => cond (Nat.blt n 159) (rowMrrll n) (rowMrrlr n)
noncomputable def rowMrrrlll : Nat → Nat → Option Op := fun n => cond (Nat.beq n 172) rw_172 (cond (Nat.beq n 173) rw_173 (cond (Nat.beq n 174) rw_174 (fun _ => none)))
noncomputable def rowMrrrllr : Nat → Nat → Option Op := fun n => cond (Nat.beq n 175) rw_175 (cond (Nat.beq n 176) rw_176 (cond (Nat.beq n 177) rw_177 (fun _ => none)))
noncomputable def rowMrrrll : Nat → Nat → Option Op := fun n => cond (Nat.blt n 175) (rowMrrrlll n) (rowMrrrllr n)
noncomputable def rowMrrrlrl : Nat → Nat → Option Op := fun n => cond (Nat.beq n 178) rw_178 (cond (Nat.beq n 179) rw_179 (cond (Nat.beq n 180) rw_180 (fun _ => none)))
noncomputable def rowMrrrlrr : Nat → Nat → Option Op := fun n => cond (Nat.beq n 181) rw_181 (cond (Nat.beq n 182) rw_182 (cond (Nat.beq n 183) rw_183 (fun _ => none)))
noncomputable def rowMrrrlr : Nat → Nat → Option Op := fun n => cond (Nat.blt n 181) (rowMrrrlrl n) (rowMrrrlrr n)
noncomputable def rowMrrrl : Nat → Nat → Option Op := fun n => cond (Nat.blt n 178) (rowMrrrll n) (rowMrrrlr n)
noncomputable def rowMrrrrll : Nat → Nat → Option Op := fun n => cond (Nat.beq n 184) rw_184 (cond (Nat.beq n 185) rw_185 (cond (Nat.beq n 186) rw_186 (fun _ => none)))
noncomputable def rowMrrrrlr : Nat → Nat → Option Op := fun n => cond (Nat.beq n 187) rw_187 (cond (Nat.beq n 188) rw_188 (cond (Nat.beq n 189) rw_189 (fun _ => none)))
noncomputable def rowMrrrrl : Nat → Nat → Option Op := fun n => cond (Nat.blt n 187) (rowMrrrrll n) (rowMrrrrlr n)
noncomputable def rowMrrrrrl : Nat → Nat → Option Op := fun n => cond (Nat.beq n 190) rw_190 (cond (Nat.beq n 191) rw_191 (cond (Nat.beq n 192) rw_192 (fun _ => none)))
noncomputable def rowMrrrrrr : Nat → Nat → Option Op := fun n => cond (Nat.beq n 193) rw_193 (cond (Nat.beq n 194) rw_194 (cond (Nat.beq n 195) rw_195 (cond (Nat.beq n 196) rw_196 (fun _ => none))))
noncomputable def rowMrrrrr : Nat → Nat → Option Op := fun n => cond (Nat.blt n 193) (rowMrrrrrl n) (rowMrrrrrr n)
noncomputable def rowMrrrr : Nat → Nat → Option Op := fun n => cond (Nat.blt n 190) (rowMrrrrl n) (rowMrrrrr n)
noncomputable def rowMrrr : Nat → Nat → Option Op := fun n => cond (Nat.blt n 184) (rowMrrrl n) (rowMrrrr n)
noncomputable def rowMrr : Nat → Nat → Option Op := fun n => cond (Nat.blt n 172) (rowMrrl n) (rowMrrr n)
noncomputable def rowMr : Nat → Nat → Option Op := fun n => cond (Nat.blt n 147) (rowMrl n) (rowMrr n)
noncomputable def rowM : Nat → Nat → Option Op := fun n => cond (Nat.blt n 98) (rowMl n) (rowMr n)
def sIv : sB := (-2147483648, 2147483647, [])
def sG0 (op : sB) (len : sB) : sG := [sIv, sIv, sIv, sIv, sIv, sIv, (0, 65535, []), op, len, sIv, sIv, sIv, sIv, sIv, sIv, sIv]
def sret1 (lf : sF) : Bool := match lf.2.1 with
  | .inl (some (.inl (.int x))) => decide (x = 1)
  | _ => false
noncomputable def srun (n d : Nat) (op len : sB) : Bool := match fx rowM n d 90 (sG0 op len) 0 [(0, .inl (.retAddr 1))] [] [] with
  | some r => r.1.all sret1 && Nat.ble r.2.1 600006 && Nat.ble r.2.2 7302064
  | none => false
end FX10
end
section
section T
theorem t_0 : srun 1500 12 (0, 0, []) (6, 6, []) = true := by decide +kernel
theorem t_1 : srun 1500 12 (1, 1, []) (6, 6, []) = true := by decide +kernel
theorem t_2 : srun 1500 12 (2, 2, []) (6, 6, []) = true := by decide +kernel
theorem t_3 : srun 1500 12 (3, 3, []) (6, 6, []) = true := by decide +kernel
theorem t_4 : srun 1500 12 (4, 4, []) (6, 6, []) = true := by decide +kernel
theorem t_5 : srun 1500 12 (5, 5, []) (6, 6, []) = true := by decide +kernel
theorem t_6 : srun 1500 12 (6, 6, []) (6, 6, []) = true := by decide +kernel
theorem t_7 : srun 1500 12 (7, 7, []) (6, 6, []) = true := by decide +kernel
theorem t_8 : srun 1500 12 (8, 8, []) (6, 6, []) = true := by decide +kernel
theorem t_9 : srun 1500 12 (9, 9, []) (6, 6, []) = true := by decide +kernel
theorem t_10 : srun 1500 12 (10, 10, []) (6, 6, []) = true := by decide +kernel
theorem t_11 : srun 1500 12 (11, 11, []) (6, 6, []) = true := by decide +kernel
theorem t_12 : srun 1500 12 (12, 12, []) (6, 6, []) = true := by decide +kernel
theorem t_13 : srun 1500 12 (13, 13, []) (6, 6, []) = true := by decide +kernel
theorem t_14 : srun 1500 12 (14, 14, []) (6, 6, []) = true := by decide +kernel
theorem t_15 : srun 1500 12 (15, 15, []) (6, 6, []) = true := by decide +kernel
theorem t_16 : srun 1500 12 (16, 16, []) (6, 6, []) = true := by decide +kernel
theorem t_17 : srun 1500 12 (17, 17, []) (6, 6, []) = true := by decide +kernel
theorem t_18 : srun 1500 12 (18, 18, []) (6, 6, []) = true := by decide +kernel
theorem t_19 : srun 1500 12 (19, 19, []) (6, 6, []) = true := by decide +kernel
theorem t_20 : srun 1500 12 (20, 20, []) (6, 6, []) = true := by decide +kernel
theorem t_21 : srun 1500 12 (21, 21, []) (6, 6, []) = true := by decide +kernel
theorem t_22 : srun 1500 12 (22, 22, []) (6, 6, []) = true := by decide +kernel
theorem t_23 : srun 1500 12 (23, 23, []) (6, 6, []) = true := by decide +kernel
theorem t_24 : srun 1500 12 (24, 24, []) (6, 6, []) = true := by decide +kernel
theorem t_25 : srun 1500 12 (25, 25, []) (6, 6, []) = true := by decide +kernel
theorem t_26 : srun 1500 12 (26, 26, []) (6, 6, []) = true := by decide +kernel
theorem t_27 : srun 1500 12 (27, 27, []) (6, 6, []) = true := by decide +kernel
theorem t_28 : srun 1500 12 (28, 28, []) (6, 6, []) = true := by decide +kernel
theorem t_29 : srun 1500 12 (29, 29, []) (6, 6, []) = true := by decide +kernel
theorem t_30 : srun 1500 12 (30, 30, []) (6, 6, []) = true := by decide +kernel
theorem t_32 : srun 1500 12 (32, 32, []) (6, 6, []) = true := by decide +kernel
theorem t_33 : srun 1500 12 (33, 33, []) (6, 6, []) = true := by decide +kernel
theorem t_34 : srun 1500 12 (34, 34, []) (6, 6, []) = true := by decide +kernel
theorem t_35 : srun 1500 12 (35, 35, []) (6, 6, []) = true := by decide +kernel
theorem t_36 : srun 1500 12 (36, 36, []) (6, 6, []) = true := by decide +kernel
theorem t_37 : srun 1500 12 (37, 37, []) (6, 6, []) = true := by decide +kernel
theorem t_38 : srun 1500 12 (38, 38, []) (6, 6, []) = true := by decide +kernel
theorem t_39 : srun 1500 12 (39, 39, []) (6, 6, []) = true := by decide +kernel
theorem t_40 : srun 1500 12 (40, 40, []) (6, 6, []) = true := by decide +kernel
theorem t_41 : srun 1500 12 (41, 41, []) (6, 6, []) = true := by decide +kernel
theorem t_42 : srun 1500 12 (42, 42, []) (6, 6, []) = true := by decide +kernel
theorem t_43 : srun 1500 12 (43, 43, []) (6, 6, []) = true := by decide +kernel
theorem t_44 : srun 1500 12 (44, 44, []) (6, 6, []) = true := by decide +kernel
theorem t_45 : srun 1500 12 (45, 45, []) (6, 6, []) = true := by decide +kernel
theorem t_46 : srun 1500 12 (46, 46, []) (6, 6, []) = true := by decide +kernel
theorem t_47 : srun 1500 12 (47, 47, []) (6, 6, []) = true := by decide +kernel
theorem t_d : srun 400 12 (48, 63, []) (6, 6, []) = true := by decide +kernel
end T
end
