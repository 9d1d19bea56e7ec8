section MJ3
theorem mj_bare_get (vm : Vm) (c : Nat) (g : Kind → Bool) : (vm.bare.classes[c]?).map (fun k => g k.kind) = (vm.classes[c]?).map (fun k => g k.kind) := by
  simp only [Vm.bare, Array.getElem?_map, Option.map_map]
  rfl
theorem mj_ao {t : FieldType} {A A1 : Array Value} {u U : State} (hvm : u.vm.Alike U.vm) (h : (Cond.arrayOver t).before A u = true) : (Cond.arrayOver t).before A1 U = true := by
  have hf : ∀ n, U.vm.findClass n = u.vm.findClass n := fun n => hvm.findClass n none
  have hb : U.vm.bare = u.vm.bare := by first | exact hvm.bare_eq | exact hvm.bare_eq.symm
  have hi : ∀ comp : ClassId, (U.vm.classes.findIdx? fun (x : Class) => match x.kind with | .array component _ => component == comp | _ => false) = (u.vm.classes.findIdx? fun (x : Class) => match x.kind with | .array component _ => component == comp | _ => false) := by
    intro comp
    have e1 := va_idx_bare U.vm comp
    rw [hb] at e1
    exact e1.symm.trans (va_idx_bare u.vm comp)
  have hg : ∀ (c : Nat) (g : Kind → Bool), (U.vm.classes[c]?).map (fun k => g k.kind) = (u.vm.classes[c]?).map (fun k => g k.kind) := by
    intro c g
    have e1 := mj_bare_get U.vm c g
    rw [hb] at e1
    exact e1.symm.trans (mj_bare_get u.vm c g)
  have core : ∀ o : Option ClassId, (((o.bind fun comp => (u.vm.classes.findIdx? fun (x : Class) => match x.kind with | .array component _ => component == comp | _ => false).bind fun c => (u.vm.classes[c]?).map fun (k : Class) => match k.kind with | .array _ ty => decide (ty = t) && decide (u.vm.findClass ("[" ++ t.toString) = some c) | _ => false) == some true) = true) →
      (((o.bind fun comp => (U.vm.classes.findIdx? fun (x : Class) => match x.kind with | .array component _ => component == comp | _ => false).bind fun c => (U.vm.classes[c]?).map fun (k : Class) => match k.kind with | .array _ ty => decide (ty = t) && decide (U.vm.findClass ("[" ++ t.toString) = some c) | _ => false) == some true) = true) := by
    intro o h
    cases o with
    | none => exact h
    | some comp =>
      refine Eq.trans (congrArg (fun z => z == some true) ?_) h
      rw [Option.bind_some, Option.bind_some]
      refine (congrArg (fun o : Option Nat => o.bind (fun c => (U.vm.classes[c]?).map fun (k : Class) => match k.kind with | .array _ ty => decide (ty = t) && decide (U.vm.findClass ("[" ++ t.toString) = some c) | _ => false)) (hi comp)).trans ?_
      refine congrArg (fun f : Nat → Option Bool => (u.vm.classes.findIdx? fun (x : Class) => match x.kind with | .array component _ => component == comp | _ => false).bind f) (funext fun c => ?_)
      have e2 := hg c (fun kd => match kd with | .array _ ty => decide (ty = t) && decide (u.vm.findClass ("[" ++ t.toString) = some c) | _ => false)
      rw [hf]
      exact e2
  unfold Cond.before Cond.holds at h ⊢
  simp only [Cond.value] at h ⊢
  cases t with
  | object n => simp only [hf n]; exact core _ h
  | array t => simp only [hf (FieldType.array t).toString]; exact core _ h
  | _ => exact h
theorem mj_sup {cls sup : String} {A A1 : Array Value} {u U : State} (hvm : u.vm.Alike U.vm) (h : (Cond.superclass cls sup).before A u = true) : (Cond.superclass cls sup).before A1 U = true := by
  cases hc : u.vm.findClass cls with
  | none => simp [Cond.before, Cond.holds, Cond.value, hc] at h
  | some c =>
    obtain ⟨p, k, kp, hp, hk, hkp, h1, h2, h3, h4⟩ := Cond.superclass_spec hc h
    obtain ⟨k1, hk1, he⟩ := hvm.2.2 _ _ hk
    obtain ⟨kp1, hkp1, hep⟩ := hvm.2.2 _ _ hkp
    have f1 : U.vm.findClass cls = some c := by rw [hvm.findClass]; exact hc
    have f2 : U.vm.findClass sup = some p := by rw [hvm.findClass]; exact hp
    have g1 : k1.super = some p := by rw [he]; exact h1
    have g2 : k1.kind = .ordinary := by rw [he]; exact h2
    have g3 : kp1.kind = .ordinary := by rw [hep]; exact h3
    have g4 : k1.isInterface = false := by rw [he]; exact h4
    simp [Cond.before, Cond.holds, Cond.value, f1, f2, hk1, hkp1, g1, g2, g3, g4]
/-- a word that a call takes along -/
def mj_pw (w : Cond) : Bool := (w.onTables && w.keepsH) || (match w with | .arrayClass _ => true | .arrayOver _ => true | .castable _ _ => true | .superclass _ _ => true | .declares _ => true | _ => false)
theorem mj_pw_at {args a1 : Array Value} {s U : State} (hW : s.WarmedH U.vm) {w : Cond} (hp : mj_pw w = true) (h : w.before args s = true) : w.before a1 U = true := by
  unfold mj_pw at hp
  rw [Bool.or_eq_true] at hp
  rcases hp with hp | hp
  · rw [Bool.and_eq_true] at hp
    exact Cond.onTables_warmH (args' := a1) (T := U) hW hp.1 hp.2 h
  · cases w <;> first | exact word_at hW (Or.inr ⟨_, rfl⟩) h | exact mj_ao hW.alike h | exact mj_sup hW.alike h | exact va_tabs (u := s.setVm U.vm) rfl rfl (by rw [Cond.castable_setVm hW.alike]; exact h) | exact va_tabs (u := s.setVm U.vm) rfl rfl (by rw [Cond.declares_setVm hW.alike]; exact h) | cases hp
def mj_A (as : List Nat) (sz : Nat) : Nat → Prop := fun q => q ∈ as ∨ sz ≤ q
def mj_Q (cl : List vw_C) (P : Option Value → mH → Prop) (D : va_G) (sp : Nat → Nat) (as : List Nat) (sz : Nat) : Array Value → State → Outcome → State → Prop := fun _ st o t =>
  ∃ (as1 : List Nat) (M1 : mH) (v w : Option Value), o = .returned w ∧ P v M1 ∧ mj_or as1 sp v w ∧ mj_WR D cl sp (mj_A as sz) t as1 M1 t.heap ∧ va_F (mj_A as sz) st t ∧ mj_le as as1
def mj_QX (cl : List vw_C) (PX : String → mH → Prop) (D : va_G) (sp : Nat → Nat) (as : List Nat) (sz : Nat) : String → State → State → Prop := fun E st t =>
  ∃ (as1 : List Nat) (M1 : mH), PX E M1 ∧ mj_WR D cl sp (mj_A as sz) t as1 M1 t.heap ∧ va_F (mj_A as sz) st t ∧ mj_le as as1
def mj_B (cl : List vw_C) (X : XT) (D : va_G) (sp : Nat → Nat) (as : List Nat) (M : mH) (sz : Nat) : State → Prop := fun U =>
  U.heap.size = sz ∧ mj_WR D cl sp (mj_A as sz) U as M U.heap ∧ X (mj_A as sz) sp U U.heap
def mj_cw (mi : MI) : Cond := match mi.2.2.2.2 with
  | [] => .code mi.1 mi.2.1 mi.2.2.1 mi.2.2.2.1
  | h :: hs => .codeWith mi.1 mi.2.1 mi.2.2.1 mi.2.2.2.1 (h :: hs)
/-- what a method does, from these arguments over this heap, with so many frames, words of locals, cells and slots -/
def EV (TT : List Cond) (cl : List vw_C) (X : XT) (mi : MI) (fr lo kc ks : Nat) (a : List Value) (M : mH) (P : Option Value → mH → Prop) (PX : String → mH → Prop) : Prop :=
  ∀ (l : Launch) (D : va_G) (sp : Nat → Nat) (as : List Nat) (a1 : List Value) (sz : Nat), l.stackTraces = false → mj_al (mj_vr as sp) a a1 →
    vx_Met l mi.1 (mj_cw mi :: TT) ({ frames := fr, cells := kc, slots := ks, locals := lo } : Room) (va_Pc a1 (mj_B cl X D sp as M sz)) (mj_Q cl P D sp as sz) (mj_QX cl PX D sp as sz) kc ks (mj_A as sz)
theorem mj_sl_len {as : List Nat} {sp : Nat → Nat} : ∀ {a b : List Value}, mj_al (mj_vr as sp) a b → (lg_sl b).length = (lg_sl a).length := by
  intro a
  induction a with
  | nil => intro b h; rw [mj_al_nil h]
  | cons v a ih =>
    intro b h
    obtain ⟨w, b, rfl, h1, h2⟩ := mj_al_cons h
    have := ih h2
    unfold lg_sl at this ⊢
    rw [List.flatMap_cons, List.flatMap_cons, List.length_append, List.length_append, this, mj_vr_cat h1]
    split <;> rfl
theorem mj_args_al {as : List Nat} {sp : Nat → Nat} : ∀ {a b : List Value} (i : Nat), mj_al (mj_vr as sp) a b → mj_al (mj_lr as sp) (lv_args i a) (lv_args i b) := by
  intro a
  induction a with
  | nil => intro b i h; rw [mj_al_nil h]; trivial
  | cons v a ih =>
    intro b i h
    obtain ⟨w, b, rfl, h1, h2⟩ := mj_al_cons h
    refine ⟨⟨rfl, h1⟩, ?_⟩
    rw [mj_vr_cat h1]
    exact ih _ h2
section
variable {TT : List Cond} {cl : List vw_C} {X : XT} {mi : MI} {fr lo kc ks : Nat} {a : List Value} {M : mH} {P : Option Value → mH → Prop} {PX : String → mH → Prop}
theorem ev_of (hX : mj_XOK X) (hpl : plainName mi.1.cls = true) (hw : (lg_sl a).length ≤ mi.2.2.1) (k : LX TT cl X mi fr lo P PX kc ks 0 (lv_args 0 a) [] M) : EV TT cl X mi fr lo kc ks a M P PX := by
  intro l D sp as a1 sz hl ha
  obtain ⟨y, cc, maxL, ret, hh⟩ := mi
  have key : ∀ (p : Program) (e : Env) (s : State) (m : MethodId) (args : Array Value) (below : List Frame) (meth : Method) (c : Code) (s₁ : State) (ws : List Cond), (∀ w ∈ TT, w ∈ ws) →
      BodyLoose p l y (headSpec ws ({ frames := fr, cells := kc, slots := ks, locals := lo } : Room)) cc maxL ret e s m args below meth c s₁ → c.maxLocals = maxL → c.exceptionTable.toList = tableOf hh → va_Pc a1 (mj_B cl X D sp as M sz) args s →
      W p l e ({ frames := fr, cells := kc, slots := ks, locals := lo } : Room) s m args below meth c s.heap [] 0 0 (vx_MQ below (mj_Q cl P D sp as sz) (mj_QX cl PX D sp as sz) args s kc ks (mj_A as sz)) (entryFrame m args maxL) := by
    intro p e s m args below meth c s₁ ws hin B hml htab hv
    obtain ⟨rfl, hsz, hWR, hXs⟩ := hv
    have hts : ∀ w ∈ ws, w.before a1.toArray s = true := atoms_spec (ws := ws) B.pre
    have hl1 := lv_entry a1 (n := maxL) (by rw [mj_sl_len ha]; exact hw)
    rw [lg_entry_eq]
    refine k p l e ({ frames := fr, cells := kc, slots := ks, locals := lo } : Room) s m a1.toArray below meth c _ _ _ D sp (mj_A as sz) as ⟨B.exec, B.bytes, hml, findClass_of_methodNamed B.named, fun w h => hts w (hin w h), B.returns, B.notSynchronized, htab, (name_of_methodNamed B.named B.method).1, hl, Nat.le_refl _, Nat.le_refl _, fun q h => Or.inr (by rw [← hsz]; exact h), fun _ h => h, hXs, hX⟩ ?_ ?_ as (lv_args 0 a1) [] s.heap [] 0 0 _ mj_le_rf hWR va_S.rf hl1 (mj_args_al 0 ha) trivial (by show 0 + kc ≤ kc; omega) (by show 0 + ks ≤ ks; omega)
    · intro as1 M1 v w t h1 h2 h3 h4 h5 h6
      exact ⟨as1, M1, v, w, rfl, h1, h2, mj_WR_moved h3.alike h4, h5, h6⟩
    · intro as1 E M1 t h1 h3 h4 h5 h6
      exact ⟨as1, M1, h1, mj_WR_moved h3 h4, h5, h6⟩
  cases hh with
  | nil =>
    refine vx_ofW (cc := cc) (maxL := maxL) (ret := ret) hpl rfl ?_
    intro p e s m args below meth c s₁ B hml htab hv
    refine key p e s m args below meth c s₁ _ (fun w h => List.mem_cons_of_mem _ h) B hml ?_ hv
    cases ht : c.exceptionTable.toList with
    | nil => rfl
    | cons z zs => exact (htab z (by rw [ht]; exact List.mem_cons_self)).elim
  | cons h hs =>
    refine vx_ofWH (cc := cc) (maxL := maxL) (ret := ret) (hh := h :: hs) hpl rfl ?_
    intro p e s m args below meth c s₁ B hml hv
    refine key p e s m args below meth c s₁ _ (fun w h => List.mem_cons_of_mem _ h) B hml ?_ hv
    exact vx_table (x := y) B (atoms_spec (ws := mj_cw (y, cc, maxL, ret, h :: hs) :: TT) B.pre _ List.mem_cons_self)
end
theorem mj_met {l : Launch} {y : MethodName} {ws : List Cond} {rm : Room} {Pc : Array Value → State → Prop} {Qc : Array Value → State → Outcome → State → Prop} {XC : String → State → State → Prop} {mc ms : Nat} {free : Addr → Prop}
    (h : vx_Met l y ws rm Pc Qc XC mc ms free) (hX : ∀ E st t, ¬ XC E st t) : Met l y ws rm Pc Qc mc ms free := by
  intro p e ha hc hk s m args below hf happ hP hK
  obtain ⟨n, o, h1, h2, h3, h4⟩ := h p e ha hc hk s m args below hf happ hP hK
  refine ⟨n, o, h1, h2, h3, ?_⟩
  rcases h4 with h4 | ⟨q, -, E, ce, L, hx, -⟩
  · exact h4
  · exact (hX _ _ _ hx).elim
theorem mj_blind {cl : List vw_C} {X : XT} {D : va_G} {sp : Nat → Nat} {as : List Nat} {M : mH} {sz : Nat} {a1 : List Value} (hX : mj_XOK X) : FrameBlind (va_Pc a1 (mj_B cl X D sp as M sz)) := by
  intro a U g mk h
  obtain ⟨h1, h2, h3, h4⟩ := h
  exact ⟨h1, h2, mj_WR_moved (u := U) (U := U.calling g mk a) (Vm.Alike.refl U.vm) h3, hX.2.2.2 _ _ U (U.calling g mk a) _ rfl h4⟩
/-- the body of a method, with an exception of this class thrown at an instruction -/
def LT (TT : List Cond) (cl : List vw_C) (X : XT) (mi : MI) (fr lo : Nat) (P : Option Value → mH → Prop) (PX : String → mH → Prop) (kc ks pc : Nat) (L : List (Nat × Value)) (E : String) (M : mH) : Prop :=
  ∀ (p : Program) (l : Launch) (e : Env) (R : Room) (s : State) (m : MethodId) (args : Array Value) (below : List Frame) (meth : Method) (c : Code) (Qc : Array Value → State → Outcome → State → Prop) (XC : String → State → State → Prop) (free : Addr → Prop) (D : va_G) (sp : Nat → Nat) (A : Nat → Prop) (as0 : List Nat),
    mj_FX TT X mi fr lo p l R s m args meth c free sp A → mj_KQ cl P s args D sp A as0 Qc → mj_KX cl PX s D sp A as0 XC →
    ∀ (as : List Nat) (L1 : List (Nat × Value)) (S1 : List Value) (H : Heap) (locs : List Loc) (cells slots : Nat) (ls : Array Slot) (q : Nat) (ce : Cell),
      mj_le as0 as → mj_WR D cl sp A s as M H → va_S A s.heap H locs → lv_has ls mi.2.2.1 L1 → mj_al (mj_lr as sp) L L1 → cells + kc ≤ R.cells → slots + ks ≤ R.slots → H[q]? = some ce → ce.vm = .none → s.vm.findClass E = some ce.cls →
      vx_W p l e R s m args below meth c H locs cells slots (vx_MQ below Qc XC args s R.cells R.slots free) (F0 m pc ls S1) q
section
variable {TT : List Cond} {cl : List vw_C} {X : XT} {mi : MI} {fr lo : Nat} {P : Option Value → mH → Prop} {PX : String → mH → Prop} {kc ks pc : Nat} {L : List (Nat × Value)} {S : List Value} {M : mH} {E : String}
theorem lt_out (h : ∀ x ∈ tableOf mi.2.2.2.2, covers x pc = false) (hP : PX E M) : LT TT cl X mi fr lo P PX kc ks pc L E M := by
  intro p l e R s m args below meth c Qc XC free D sp A as0 F kq kx as L1 S1 H locs cells slots ls q ce h0 hW hS hl hL hc hs hq hv hcl
  refine vx_out (by rw [F.2.2.2.2.2.2.2.1]; exact h) F.2.2.2.2.2.2.1 hq hv hcl (fun t ht ha => kx as E M t hP ha (by rw [ht]; exact hW) (hS.F ht) h0) (fun z hz => F.2.2.2.2.2.2.2.2.2.2.2.2.2.1 _ (hS.2.2 z hz)) (by omega) (by omega)
/-- not caught here, past rows of the table that name other classes -/
theorem lt_outP (h : ∀ z ∈ tableOf mi.2.2.2.2, covers z pc = false ∨ (z.catchType ≠ 0 ∧ ∃ nm : String, Cond.classLink mi.1.cls z.catchType nm ∈ TT ∧ ∀ (A : Nat → Prop) (sp : Nat → Nat) (U : State) (H : Heap), X A sp U H → va_Nc E nm U)) (hP : PX E M) : LT TT cl X mi fr lo P PX kc ks pc L E M := by
  intro p l e R s m args below meth c Qc XC free D sp A as0 F kq kx as L1 S1 H locs cells slots ls q ce h0 hW hS hl hL hc hs hq hv hcl
  refine vx_outP F.2.2.2.1 F.2.2.2.2.2.2.1 (fun z hz => ?_) hq hv hcl (fun t ht ha => kx as E M t hP ha (by rw [ht]; exact hW) (hS.F ht) h0) (fun z hz => F.2.2.2.2.2.2.2.2.2.2.2.2.2.1 _ (hS.2.2 z hz)) (by omega) (by omega)
  rw [F.2.2.2.2.2.2.2.1] at hz
  rcases h z hz with h | ⟨h1, nm, h2, h3⟩
  · exact Or.inl h
  · exact Or.inr ⟨h1, nm, F.2.2.2.2.1 _ h2, h3 A sp s s.heap F.2.2.2.2.2.2.2.2.2.2.2.2.2.2.1⟩
/-- caught by the row x of the table -/
theorem lt_catch (pre : List ExceptionTableEntry) (x : ExceptionTableEntry) (suf : List ExceptionTableEntry) {name : String} (hsplit : tableOf mi.2.2.2.2 = pre ++ x :: suf)
    (hpass : ∀ z ∈ pre, covers z pc = false ∨ (z.catchType ≠ 0 ∧ ∃ nm : String, Cond.classLink mi.1.cls z.catchType nm ∈ TT ∧ ∀ (A : Nat → Prop) (sp : Nat → Nat) (U : State) (H : Heap), X A sp U H → va_Nc E nm U)) (hx : covers x pc = true) (h0 : x.catchType ≠ 0)
    (hlink : Cond.classLink mi.1.cls x.catchType name ∈ TT) (hcast : Cond.castable E name ∈ TT) (k : LX TT cl X mi fr lo P PX kc ks x.handlerPc L [.retAddr 0] M) : LT TT cl X mi fr lo P PX kc ks pc L E M := by
  intro p l e R s m args below meth c Qc XC free D sp A as0 F kq kx as L1 S1 H locs cells slots ls q ce h1 hW hS hl hL hc hs hq hv hcl
  refine vx_catch F.2.2.2.1 pre x suf (F.2.2.2.2.2.2.2.1.trans hsplit) (fun z hz => ?_) hx h0 (F.2.2.2.2.1 _ hlink) (F.2.2.2.2.1 _ hcast) hq hv hcl (k p l e R s m args below meth c Qc XC free D sp A as0 F kq kx as L1 _ H locs cells slots ls h1 hW hS hl hL ⟨⟨q, rfl, Or.inl rfl⟩, trivial⟩ hc hs)
  rcases hpass z hz with h | ⟨h1, nm, h2, h3⟩
  · exact Or.inl h
  · exact Or.inr ⟨h1, nm, F.2.2.2.2.1 _ h2, h3 A sp s s.heap F.2.2.2.2.2.2.2.2.2.2.2.2.2.2.1⟩
end
/-- behind a call -/
theorem mj_ret {p : Program} {l : Launch} {e : Env} {R : Room} {s : State} {m : MethodId} {args : Array Value} {below : List Frame} {meth : Method} {c : Code} {H : Heap} {locs : List Loc} {cells slots : Nat} {Q : State → Prop}
    {cl : List vw_C} {P1 : Option Value → mH → Prop} {PX1 : String → mH → Prop} {D : va_G} {sp : Nat → Nat} {A : Nat → Prop} {as : List Nat} {M : mH} {kc1 ks1 pc : Nat} {ls : Array Slot} {st0 rest : List Value} {a : Array Value}
    (hr : vx_Run p l e R s m args below meth c H locs cells slots kc1 ks1 (F0 m pc ls st0) rest (mj_Q cl P1 D sp as H.size a) (mj_QX cl PX1 D sp as H.size) (mj_A as H.size)) (hW : mj_WR D cl sp A s as M H) (hS : va_S A s.heap H locs) (hA : ∀ q : Nat, s.heap.size ≤ q → A q)
    (kx : ∀ (E : String) (M1 : mH) (as1 : List Nat) (ce : Cell) (q : Nat) (H1 : Heap) (locs1 : List Loc), PX1 E M1 → mj_le as as1 → mj_WR D cl sp A s as1 M1 H1 → va_S A s.heap H1 locs1 → H1[q]? = some ce → ce.vm = .none → s.vm.findClass E = some ce.cls → vx_W p l e R s m args below meth c H1 locs1 (cells + kc1) (slots + ks1) Q (F0 m pc ls rest) q)
    (kk : ∀ (v w : Option Value) (M1 : mH) (as1 : List Nat) (H1 : Heap) (locs1 : List Loc), P1 v M1 → mj_or as1 sp v w → mj_le as as1 → mj_WR D cl sp A s as1 M1 H1 → va_S A s.heap H1 locs1 → W p l e R s m args below meth c H1 locs1 (cells + kc1) (slots + ks1) Q (F0 m (pc + 3) ls (w.toList ++ rest))) : W p l e R s m args below meth c H locs cells slots Q (F0 m pc ls st0) := by
  have hf : ∀ q, mj_A as H.size q → A q := by
    intro q h
    rcases h with h | h
    · exact mj_WR_A hW h
    · exact hA q (Nat.le_trans hS.1 h)
  intro T hT X
  rcases hr T hT X with ⟨v, st₀, t, T', L, h0, X', hL, e1, e2, hq, st⟩ | ⟨q, st₀, t, T', L, E, ce, h0, X', hL, e1, e2, hq, hce, hcv, hcl, st⟩
  · obtain ⟨as1, M1, v1, w, ew, hP, hor, hWR, hF, hle⟩ := hq
    cases ew
    obtain ⟨k1, k2, k3⟩ := vx_keep h0 e1 hS (fun q _ h => hf q h) hf hL hF
    have hal : s.vm.Alike t.vm := by rw [← e2]; exact X'.warmed.alike
    have hWR1 : mj_WR D cl sp A s as1 M1 T'.heap := by
      rw [e1]
      exact mj_WR_moved hal.symm (mj_WR_weaken hWR (fun a ha => hf a (mj_WR_A hWR ha)))
    obtain ⟨t2, a1, b1⟩ := kk v1 v M1 as1 T'.heap (locs ++ L) hP hor hle hWR1 k3 T' rfl X'
    exact ⟨t2, st t2 a1, b1⟩
  · obtain ⟨as1, M1, hP, hWR, hF, hle⟩ := hq
    obtain ⟨k1, k2, k3⟩ := vx_keep h0 e1 hS (fun q _ h => hf q h) hf hL hF
    have hal : s.vm.Alike t.vm := by rw [← e2]; exact X'.warmed.alike
    have hWR1 : mj_WR D cl sp A s as1 M1 T'.heap := by
      rw [e1]
      exact mj_WR_moved hal.symm (mj_WR_weaken hWR (fun a ha => hf a (mj_WR_A hWR ha)))
    obtain ⟨t2, a1, b1⟩ := kx E M1 as1 ce q T'.heap (locs ++ L) hP hle hWR1 k3 (by rw [e1]; exact hce) hcv hcl T' rfl X'
    exact ⟨t2, st.trans a1, b1⟩
end MJ3
