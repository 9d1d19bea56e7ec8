section ST1
variable {TT : List Cond} {cl : List vw_C} {X : XT} {mi : MI} {fr lo : Nat} {P : Option Value → mH → Prop} {PX : String → mH → Prop} {kc ks pc : Nat} {L : List (Nat × Value)} {S : List Value} {M : mH}
/-- what is known of a class of the list -/
def cOK (TT : List Cond) (cl : List vw_C) (ci : Nat) (C : String) (T : u_T) (N : Nat) (ty : Nat → FieldType) : Prop :=
  cl[ci]? = some (C, T, N) ∧ (∀ w ∈ u_ws C T N, w ∈ TT) ∧ (∀ k, k < N → parseFieldDescriptor (T k).2.2.1 = some (ty k)) ∧ (∀ a, a < N → ∀ b, b < N → a ≠ b → (T a).2.1 ≠ (T b).2.1)
/-- a link to a field, by its own class or a class that inherits it -/
def fOK (TT : List Cond) (own : String) (index : Nat) (q : String × String × String × Bool) : Prop :=
  ∃ R : String, (Cond.fieldLink own index R q.2.1 q.2.2.1 ∈ TT ∨ ∃ host, Cond.fieldLinkNest own index R q.2.1 q.2.2.1 host ∈ TT) ∧ (R = q.1 ∨ Cond.sameField R q.1 q.2.1 q.2.2.1 ∈ TT)
theorem k_get {ci k N : Nat} {C : String} {T : u_T} {ty : Nat → FieldType} {index : Nat} (hc : cOK TT cl ci C T N ty) (d : decode mi.2.1 pc = .ok (.getfield index, 3)) (hk : k < N) (hl : fOK TT mi.1.cls index (T k)) : kGet TT cl X mi pc ci k := by
  intro fr lo P PX kc ks L S M i fs v hM hv kk
  intro p l e R s m args below meth c Qc XC free D sp A as0 F kq kx as L1 S1 H locs cells slots ls h0 hW hS hl1 hL hSt hcs hss
  have h9 := mj_al_cons hSt
  clear hSt
  obtain ⟨w, S1, rfl, ⟨a, ha, rfl⟩, hSt⟩ := h9
  have hW0 := hW
  obtain ⟨ws, tys, hK, hP, hD, hr⟩ := hW
  obtain ⟨gs, h1, h2⟩ := mj_obj hr ha hM
  obtain ⟨y, h3, h4⟩ := mj_al_get h2 hv
  have k2 := kk p l e R s m args below meth c Qc XC free D sp A as0 F kq kx as L1 (y :: S1) H locs cells slots ls h0 hW0 hS hl1 hL ⟨h4, hSt⟩ hcs hss
  obtain ⟨R9, hlk, hsm⟩ := hl
  have hsame : ∀ x, s.fieldFound? (T k).1 (T k).2.1 (T k).2.2.1 = some x → s.fieldFound? R9 (T k).2.1 (T k).2.2.1 = some x := by
    rcases hsm with rfl | hsm
    · exact fun _ h => h
    · exact u_same (F.2.2.2.2.1 _ hsm)
  rcases hlk with hlk | ⟨host, hlk⟩
  · exact va_get (D := D) F.1 F.2.1 F.2.2.2.2.1 hc.2.1 F.2.2.2.1 hK hP i h1 hc.1 k hk (F.2.2.2.2.1 _ hlk) hsame h3 d k2
  · exact va_getN (D := D) F.1 F.2.1 F.2.2.2.2.1 hc.2.1 F.2.2.2.1 hK hP i h1 hc.1 k hk (F.2.2.2.2.1 _ hlk) hsame h3 d k2
theorem k_put {ci k N : Nat} {C : String} {T : u_T} {ty : Nat → FieldType} {index : Nat} (hc : cOK TT cl ci C T N ty) (d : decode mi.2.1 pc = .ok (.putfield index, 3)) (hk : k < N) (hl : fOK TT mi.1.cls index (T k)) (hfin : (T k).2.2.2 = false) : kPut TT cl X mi pc ci k (ty k) := by
  intro fr lo P PX kc ks L S M i fs v hM hkl hn hfi kk
  intro p l e R s m args below meth c Qc XC free D sp A as0 F kq kx as L1 S1 H locs cells slots ls h0 hW hS hl1 hL hSt hcs hss
  have h9 := mj_al_cons hSt
  clear hSt
  obtain ⟨w, S1, rfl, wr, hSt⟩ := h9
  have h9 := mj_al_cons hSt
  clear hSt
  obtain ⟨w1, S1, rfl, ⟨a, ha, rfl⟩, hSt⟩ := h9
  obtain ⟨ws, tys, hK, hP, hD, hr⟩ := hW
  obtain ⟨gs, h1, h2⟩ := mj_obj hr ha hM
  obtain ⟨R9, hlk, hsm⟩ := hl
  have hsame : ∀ x, s.fieldFound? (T k).1 (T k).2.1 (T k).2.2.1 = some x → s.fieldFound? R9 (T k).2.1 (T k).2.2.1 = some x := by
    rcases hsm with rfl | hsm
    · exact fun _ h => h
    · exact u_same (F.2.2.2.2.1 _ hsm)
  rcases hlk with hlk | ⟨host, hlk⟩
  · exact va_put (D := D) F.1 F.2.1 F.2.2.2.2.1 hc.2.1 ty hc.2.2.1 hc.2.2.2 F.2.2.2.1 hK hP hD hS i h1 hc.1 k hk (F.2.2.2.2.1 _ hlk) hsame hfin (hc.2.2.1 k hk) (mj_narrow wr hn) (mj_fit wr hfi) (by rw [mj_al_len h2]; exact hkl) d (fun H1 locs1 hP1 hD1 hS1 =>
      kk p l e R s m args below meth c Qc XC free D sp A as0 F kq kx as L1 _ H1 locs1 cells slots ls h0 ⟨_, tys, hK, hP1, hD1, mj_hr_set hr ha ⟨rfl, mj_al_set wr h2⟩⟩ hS1 hl1 hL hSt hcs hss)
  · exact va_putN (D := D) F.1 F.2.1 F.2.2.2.2.1 hc.2.1 ty hc.2.2.1 hc.2.2.2 F.2.2.2.1 hK hP hD hS i h1 hc.1 k hk (F.2.2.2.2.1 _ hlk) hsame hfin (hc.2.2.1 k hk) (mj_narrow wr hn) (mj_fit wr hfi) (by rw [mj_al_len h2]; exact hkl) d (fun H1 locs1 hP1 hD1 hS1 =>
      kk p l e R s m args below meth c Qc XC free D sp A as0 F kq kx as L1 _ H1 locs1 cells slots ls h0 ⟨_, tys, hK, hP1, hD1, mj_hr_set hr ha ⟨rfl, mj_al_set wr h2⟩⟩ hS1 hl1 hL hSt hcs hss)
theorem k_putF {ci k N : Nat} {C : String} {T : u_T} {ty : Nat → FieldType} {index : Nat} (hc : cOK TT cl ci C T N ty) (d : decode mi.2.1 pc = .ok (.putfield index, 3)) (hk : k < N) (hl : Cond.fieldLink mi.1.cls index (T k).1 (T k).2.1 (T k).2.2.1 ∈ TT) (hfin : (T k).2.2.2 = true) (hini : mi.1.name = "<init>") (hown : (T k).1 = mi.1.cls) : kPut TT cl X mi pc ci k (ty k) :=
  fun _ _ _ _ _ _ _ _ _ _ _ _ hM hkl hn hfi kk => lx_putfinal d hini ⟨C, T, N, ty, hc.1, hc.2.1, hk, hl, hc.2.2.1, hc.2.2.2, hc.2.2.1 k hk, hfin, fun _ => hown⟩ hM hkl hn hfi kk
theorem k_new {ci N : Nat} {C : String} {T : u_T} {ty : Nat → FieldType} {index : Nat} {fs : List Value} (hc : cOK TT cl ci C T N ty) (d : decode mi.2.1 pc = .ok (.new index, 3)) (hl : Cond.classLink mi.1.cls index C ∈ TT) (hi : Cond.instantiable C N ∈ TT) (hn : Cond.initialized C ∈ TT) (hdf : ∀ j, j < N → defaultValue (ty j) = vp_V fs j) (hp : fs.all mj_pl = true) : kNew TT cl X mi pc ci N fs :=
  fun _ _ _ _ _ _ _ _ _ kk => lx_new d ⟨C, T, ty, hc.1, hc.2.1, hc.2.2.1, hl, hi, hn, hdf⟩ hp kk
theorem k_cast {ci N : Nat} {C : String} {T : u_T} {ty : Nat → FieldType} {index : Nat} (hc : cOK TT cl ci C T N ty) (d : decode mi.2.1 pc = .ok (.checkcast index, 3)) (hl : Cond.classLink mi.1.cls index C ∈ TT) : kCast TT cl X mi pc ci := by
  intro fr lo P PX kc ks L S M i fs hM kk
  intro p l e R s m args below meth c Qc XC free D sp A as0 F kq kx as L1 S1 H locs cells slots ls h0 hW hS hl1 hL hSt hcs hss
  have hSt0 := hSt
  have h9 := mj_al_cons hSt
  clear hSt
  obtain ⟨w, S1, rfl, ⟨a, ha, rfl⟩, hSt⟩ := h9
  have hW0 := hW
  obtain ⟨ws, tys, hK, hP, hD, hr⟩ := hW
  have hcl := (hK.1 ci _ hc.1).2
  exact va_castS F.1 F.2.1 F.2.2.2.1 (F.2.2.2.2.1 _ hl) hcl (mj_recv hW0 hM ha hc.1) d (kk p l e R s m args below meth c Qc XC free D sp A as0 F kq kx as L1 _ H locs cells slots ls h0 hW0 hS hl1 hL hSt0 hcs hss)
theorem k_anew {C : String} {index : Nat} (d : decode mi.2.1 pc = .ok (.anewarray index, 3)) (hl : Cond.classLink mi.1.cls index C ∈ TT) (ho : Cond.arrayOver (.object C) ∈ TT) : kAnew TT cl X mi pc (.object C) := by
  intro fr lo P PX kc ks L S M n hn0 hn1 kk
  intro p l e R s m args below meth c Qc XC free D sp A as0 F kq kx as L1 S1 H locs cells slots ls h0 hW hS hl1 hL hSt hcs hss
  have h9 := mj_al_cons hSt
  clear hSt
  obtain ⟨_, S1, rfl, rfl, hSt⟩ := h9
  obtain ⟨ws, tys, hK, hP, hD, hr⟩ := hW
  refine va_newq (D := D) F.1 F.2.1 F.2.2.2.1 (F.2.2.2.2.1 _ hl) (mj_ao (Vm.Alike.refl s.vm) (F.2.2.2.2.1 _ ho) : va_AO C s) hK hP hD hS F.2.2.2.2.2.2.2.2.2.2.2.2.1 hn0 rfl (by omega) (by omega) (by omega) d (fun q cA H1 hK1 hP1 hD1 hS1 => ?_)
  have hle : mj_le as (as ++ [q]) := mj_le_app
  exact kk p l e R s m args below meth c Qc XC free D sp A as0 F kq kx (as ++ [q]) L1 _ H1 locs (cells + 1) (slots + n.toNatClampNeg) ls (mj_le_tr h0 hle) (mj_WR_push hK1 hP1 hD1 hr (fun i z hz => by rw [List.getElem?_append_left (List.getElem?_eq_some_iff.mp hz).1]; exact hz) ⟨⟨tys.length, by simp⟩, rfl, fun _ => rfl⟩) hS1 hl1 (mj_al_mono (fun _ _ h => mj_lr_mono hle h) hL)
    ⟨⟨q, by rw [← hr.1]; simp, rfl⟩, mj_al_mono (fun _ _ h => mj_vr_mono hle h) hSt⟩ (by omega) (by omega)
theorem k_ast {ci N : Nat} {C E : String} {T : u_T} {ty : Nat → FieldType} (hc : cOK TT cl ci C T N ty) (d : decode mi.2.1 pc = .ok (.aastore, 1)) (hca : Cond.castable C E ∈ TT) : kAst TT cl X mi pc ci (.object E) := by
  intro fr lo P PX kc ks L S M i k n j f fs hM hk hin kk
  intro p l e R s m args below meth c Qc XC free D sp A as0 F kq kx as L1 S1 H locs cells slots ls h0 hW hS hl1 hL hSt hcs hss
  have h9 := mj_al_cons hSt
  clear hSt
  obtain ⟨_, S1, rfl, ⟨b, hb, rfl⟩, hSt⟩ := h9
  have h9 := mj_al_cons hSt
  clear hSt
  obtain ⟨_, S1, rfl, rfl, hSt⟩ := h9
  have h9 := mj_al_cons hSt
  clear hSt
  obtain ⟨_, S1, rfl, ⟨a, ha, rfl⟩, hSt⟩ := h9
  have hW0 := hW
  obtain ⟨ws, tys, hK, hP, hD, hr⟩ := hW
  obtain ⟨cA, t0, y, h1, h2, h3⟩ := mj_arr hr ha hM
  obtain ⟨g, rfl, h4⟩ := mj_ar_q h3
  obtain ⟨gs, h5, h6⟩ := mj_obj hr hb hk
  exact va_astqO F.1 F.2.1 hK hP hD hS i t0 k ci (r := (C, T, N)) h1 h2 (va_Nw.of rfl (F.2.2.2.2.1 _ hca)) h5 hc.1 hin d (fun H1 locs1 hP1 hD1 hS1 => kk p l e R s m args below meth c Qc XC free D sp A as0 F kq kx as L1 _ H1 locs1 cells slots ls h0 ⟨_, tys, hK, hP1, hD1, mj_hr_set hr ha ⟨⟨t0, h2⟩, rfl, fun z => mj_qr_up hb (h4 z)⟩⟩ hS1 hl1 hL hSt hcs hss)
-- ===== calls =====
theorem k_static {ci : MI} {index n rc : Nat} (d : decode mi.2.1 pc = .ok (.invokestatic index, 3)) (hc : mj_CS TT ci n) (hl1 : Cond.methodLink mi.1.cls index ci.1 ∈ TT) (hs1 : Cond.static ci.1 ∈ TT) : kCall TT cl X mi pc 3 ci 1 n rc := by
  intro fr lo fr1 lo1 P PX P1 PX1 kc ks kc1 ks1 L S M a ha _ _ _ he hf hst kx kk
  subst ha
  cases hh : ci.2.2.2.2 with
  | nil => exact lx_static d hc hh hl1 hs1 he hf hst kx kk
  | cons hd tl => exact lx_staticX d hc hh hl1 hs1 he hf hst kx kk
theorem k_staticN {ci : MI} {index n rc : Nat} {host : String} (d : decode mi.2.1 pc = .ok (.invokestatic index, 3)) (hc : mj_CS TT ci n) (hh : ci.2.2.2.2 = []) (hl1 : Cond.methodLinkNest mi.1.cls index ci.1 host ∈ TT) (hs1 : Cond.static ci.1 ∈ TT) : kCall TT cl X mi pc 3 ci 4 n rc := by
  intro fr lo fr1 lo1 P PX P1 PX1 kc ks kc1 ks1 L S M a ha _ _ hnt he hf hst kx kk
  subst ha
  have hz : PX1 = fun _ _ => False := funext fun E => funext fun M1 => propext ⟨fun h => (hnt rfl E M1 h).elim, fun h => h.elim⟩
  subst hz
  exact lx_staticN d hc hh hl1 hs1 he hf hst kk
theorem k_virtual {ci : MI} {index n rc N : Nat} {C : String} {T : u_T} (d : decode mi.2.1 pc = .ok (.invokevirtual index, 3)) (hc : mj_CS TT ci n) (hh : ci.2.2.2.2 = []) (hk : cl[rc]? = some (C, T, N)) (hl1 : Cond.methodLink mi.1.cls index ci.1 ∈ TT) (hs1 : Cond.instanceMethod ci.1 ∈ TT) (hs2 : Cond.selects C ci.1 ci.1 ∈ TT) : kCall TT cl X mi pc 3 ci 2 (n + 1) rc := by
  intro fr lo fr1 lo1 P PX P1 PX1 kc ks kc1 ks1 L S M a ha hrc _ _ he hf hst kx kk
  obtain ⟨i, fs, a1, rfl, hM⟩ := hrc (Or.inl rfl)
  have ha1 : a1.length = n := by simpa using ha
  subst ha1
  rw [List.reverse_cons, List.append_assoc]
  exact lx_virtual d hc hh hM hk hl1 hs1 hs2 he hf hst kx kk
theorem k_init {ci : MI} {index n rc : Nat} (d : decode mi.2.1 pc = .ok (.invokespecial index, 3)) (hc : mj_CS TT ci n) (hh : ci.2.2.2.2 = []) (hr0 : ci.2.2.2.1 = none) (hn : ci.1.name = "<init>") (hl1 : Cond.methodLink mi.1.cls index ci.1 ∈ TT) (hs1 : Cond.instanceMethod ci.1 ∈ TT) : kCall TT cl X mi pc 3 ci 3 (n + 1) rc := by
  intro fr lo fr1 lo1 P PX P1 PX1 kc ks kc1 ks1 L S M a ha _ hrc hnt he hf hst kx kk
  obtain ⟨i, a1, rfl⟩ := hrc rfl
  have ha1 : a1.length = n := by simpa using ha
  subst ha1
  have hz : PX1 = fun _ _ => False := funext fun E => funext fun M1 => propext ⟨fun h => (hnt rfl E M1 h).elim, fun h => h.elim⟩
  subst hz
  rw [List.reverse_cons, List.append_assoc]
  exact lx_init d hc hh hr0 hn hl1 hs1 he hf hst kk
theorem k_obj {index : Nat} (d : decode mi.2.1 pc = .ok (.invokespecial index, 3)) (hl1 : Cond.methodLink mi.1.cls index Lib.objectInit ∈ TT) (hs1 : Cond.instanceMethod Lib.objectInit ∈ TT) (hcode : Cond.code Lib.objectInit ⟨#[0xb1]⟩ 1 none ∈ TT) : kObj TT cl X mi pc :=
  fun _ _ _ _ _ _ _ _ _ _ hf hlo kk => lx_objInit d hl1 hs1 hcode ⟨hf, hlo⟩ kk
/-- behind a call through an interface -/
theorem mj_ret5 {p : Program} {l : Launch} {e : Env} {R : Room} {s : State} {m : MethodId} {args : Array Value} {below : List Frame} {meth : Method} {c : Code} {H : Heap} {locs : List Loc} {cells slots : Nat} {Q : State → Prop}
    {cl : List vw_C} {P1 : Option Value → mH → Prop} {D : va_G} {sp : Nat → Nat} {A : Nat → Prop} {as : List Nat} {M : mH} {kc1 ks1 pc : Nat} {ls : Array Slot} {st0 rest : List Value} {a : Array Value}
    (hr : va_Run5 p l e R s m args below meth c H locs cells slots kc1 ks1 (F0 m pc ls st0) rest (mj_Q cl P1 D sp as H.size a) (mj_A as H.size)) (hW : mj_WR D cl sp A s as M H) (hS : va_S A s.heap H locs) (hA : ∀ q : Nat, s.heap.size ≤ q → A q)
    (kk : ∀ (v w : Option Value) (M1 : mH) (as1 : List Nat) (H1 : Heap) (locs1 : List Loc), P1 v M1 → mj_or as1 sp v w → mj_le as as1 → mj_WR D cl sp A s as1 M1 H1 → va_S A s.heap H1 locs1 → W p l e R s m args below meth c H1 locs1 (cells + kc1) (slots + ks1) Q (F0 m (pc + 5) ls (w.toList ++ rest))) : W p l e R s m args below meth c H locs cells slots Q (F0 m pc ls st0) := by
  have hf : ∀ q, mj_A as H.size q → A q := by
    intro q h
    rcases h with h | h
    · exact mj_WR_A hW h
    · exact hA q (Nat.le_trans hS.1 h)
  intro T hT X
  obtain ⟨v, st₀, t, T', L, h0, X', hL, e1, e2, hq, st⟩ := hr T hT X
  obtain ⟨as1, M1, v1, w, ew, hP, hor, hWR, hF, hle⟩ := hq
  cases ew
  obtain ⟨k1, k2, k3⟩ := vx_keep h0 e1 hS (fun q _ h => hf q h) hf hL hF
  have hal : s.vm.Alike t.vm := by rw [← e2]; exact X'.warmed.alike
  have hWR1 : mj_WR D cl sp A s as1 M1 T'.heap := by
    rw [e1]
    exact mj_WR_moved hal.symm (mj_WR_weaken hWR (fun a ha => hf a (mj_WR_A hWR ha)))
  obtain ⟨t2, a1, b1⟩ := kk v1 v M1 as1 T'.heap (locs ++ L) hP hor hle hWR1 k3 T' rfl X'
  exact ⟨t2, st t2 a1, b1⟩
/-- what X has to give for a call through an interface -/
def mj_XF (X : XT) (C : String) (x y : MethodName) : Prop := ∀ (A : Nat → Prop) (sp : Nat → Nat) (U : State) (H : Heap), X A sp U H → va_Fw C x y U
theorem k_face {ci : MI} {x : MethodName} {index count n rc N : Nat} {C : String} {T : u_T} (d : decode mi.2.1 pc = .ok (.invokeinterface index count, 5)) (hXF : mj_XF X C x ci.1) (hpw : ∀ w ∈ TT, mj_pw w = true) (hcd : mj_cw ci ∈ TT) (hini : Cond.initialized ci.1.cls ∈ TT) (hh : ci.2.2.2.2 = []) (hk : cl[rc]? = some (C, T, N))
    (hx : x.cls ≠ "java/lang/invoke/MethodHandle" ∧ x.cls ≠ "java/lang/invoke/VarHandle") (hpar : (parseMethodDescriptor x.desc).map (fun d => d.parameters.length) = some n)
    (hl1 : Cond.methodLink mi.1.cls index x ∈ TT) (hs1 : Cond.instanceMethod ci.1 ∈ TT) (hs2 : Cond.selects C x ci.1 ∈ TT) : kCall TT cl X mi pc 5 ci 5 (n + 1) rc := by
  intro fr lo fr1 lo1 P PX P1 PX1 kc ks kc1 ks1 L S M a ha hrc _ hnt he hf hst kx kk
  obtain ⟨i, fs, a1, rfl, hM⟩ := hrc (Or.inr rfl)
  have ha1 : a1.length = n := by simpa using ha
  have hz : PX1 = fun _ _ => False := funext fun E => funext fun M1 => propext ⟨fun h => (hnt rfl E M1 h).elim, fun h => h.elim⟩
  subst hz
  rw [List.reverse_cons, List.append_assoc]
  show LX TT cl X mi fr lo P PX _ _ pc L (a1.reverse ++ .ref i :: S) M
  intro p l e R s m args below meth c Qc XC free D sp A as0 F kq kx0 as L1 S1 H locs cells slots ls h0 hW hS hl hL hSt hcs hss
  obtain ⟨y, cc, maxL, ret, hh9⟩ := ci
  cases (show hh9 = [] from hh)
  obtain ⟨ar, rest, rfl, har, hrest⟩ := mj_al_split hSt
  have hz9 := mj_al_cons hrest
  clear hrest
  obtain ⟨b9, rest, rfl, ⟨b, hb, rfl⟩, hrest⟩ := hz9
  have har1 : mj_al (mj_vr as sp) a1 ar.reverse := by
    have := mj_al_rev har
    rwa [List.reverse_reverse] at this
  have hrev : ar ++ .ref b :: rest = (ar.reverse).reverse ++ .ref b :: rest := by rw [List.reverse_reverse]
  have hF := hXF A sp s s.heap F.2.2.2.2.2.2.2.2.2.2.2.2.2.2.1
  have hws : ∀ w ∈ mj_cw (y, cc, maxL, ret, ([] : List (Nat × Nat × Nat × Nat))) :: TT, ∀ (a' : Array Value) (U : State), s.WarmedH U.vm → w.before a' U = true := by
    intro w hw a' U hW
    rcases List.mem_cons.mp hw with rfl | hw
    · exact mj_pw_at hW (hpw _ hcd) (F.2.2.2.2.1 _ hcd)
    · exact mj_pw_at hW (hpw _ hw) (F.2.2.2.2.1 _ hw)
  have hr := va_runF (e := e) (H := H) (locs := locs) (cells := cells) (slots := slots) (g := F0 m pc ls (ar ++ .ref b :: rest)) (rest := rest) (below := below) (meth := meth) (n := n) (As := ar.reverse) (b := b) (C := C) (x := x) (y := y) (maxL := maxL) (ret := ret) (bytes := cc) (own := mi.1.cls) (index := index) (count := count) (cc := mi.2.1) (nL := mi.2.2.1) (Ts := TT)
    (by obtain ⟨ws, tys, hK, -⟩ := hW; exact (hK.1 rc _ hk).2) ⟨F.1, F.2.1, F.2.2.1, F.2.2.2.1, F.2.2.2.2.1⟩
    (mj_met (he l D sp as (.ref b :: ar.reverse) H.size F.2.2.2.2.2.2.2.2.2.1 ⟨⟨b, hb, rfl⟩, har1⟩) (fun E st t h => by obtain ⟨_, _, h, _⟩ := h; exact h))
    ⟨⟨rfl, rfl, Nat.le_trans hf.1 F.2.2.2.2.2.2.2.2.2.2.1, Nat.le_trans hf.2 F.2.2.2.2.2.2.2.2.2.2.2.1, hws, List.mem_cons_self⟩, F.2.2.2.2.1 _ hl1, va_any rfl hF.1, va_any rfl hF.2.1, F.2.2.2.2.1 _ hs2, F.2.2.2.2.1 _ hs1, va_any rfl hF.2.2.1, va_any rfl hF.2.2.2.1, va_any rfl hF.2.2.2.2, F.2.2.2.2.1 _ hini, F.2.2.2.2.1 _ hcd, hx, fun sig h => by rw [h] at hpar; exact (Option.some.inj hpar).symm⟩
    ⟨mj_blind F.2.2.2.2.2.2.2.2.2.2.2.2.2.2.2, mj_recv hW hM hb hk, mj_pre (l := l) F.2.2.2.2.2.2.2.2.2.2.2.2.2.2.2 F.2.2.2.2.2.2.2.2.2.2.2.2.2.2.1 F.2.2.2.2.2.2.2.2.2.2.2.2.1 hW hS⟩ rfl ((mj_al_len har1).trans ha1) hl.1 hrev (by show 2 * 0 + _ ≤ 8; rw [mj_al_cat hrest]; omega) d ⟨by omega, by omega⟩
  refine mj_ret5 hr hW hS F.2.2.2.2.2.2.2.2.2.2.2.2.1 ?_
  intro v w M1 as1 H1 locs1 h1 h2 h3 h4 h5
  refine kk v M1 h1 p l e R s m args below meth c Qc XC free D sp A as0 F kq kx0 as1 L1 _ H1 locs1 (cells + kc1) (slots + ks1) ls (mj_le_tr h0 h3) h4 h5 hl (mj_al_mono (fun _ _ h => mj_lr_mono h3 h) hL) ?_ (by omega) (by omega)
  have hrest1 := mj_al_mono (fun _ _ h => mj_vr_mono h3 h) hrest
  cases v with
  | none => rw [show w = none from h2]; exact hrest1
  | some v => obtain ⟨w', rfl, hv⟩ := h2; exact ⟨hv, hrest1⟩
-- ===== throws =====
theorem k_thr {cls text : String} {names : List String} {ik is ic : Nat} (hXT : mj_XT X) (hXS : mj_XS X mi.1.cls is text) (hcls : Bundle.fit cls = true) (hnames : ∀ n ∈ names, Bundle.fit n = true) (hk : Cond.classLink mi.1.cls ik cls ∈ TT) (hini : Cond.initialized cls ∈ TT) (hat : ∀ w ∈ vx_atS mi.1.cls ic cls names, w ∈ TT)
    (hgood : ∀ w ∈ Cond.classLink mi.1.cls ik cls :: Cond.initialized cls :: vx_atS mi.1.cls ic cls names, vx_ot w = true)
    (d0 : decode mi.2.1 pc = .ok (.new ik, 3)) (d3 : decode mi.2.1 (pc + 3) = .ok (.dup, 1)) (d4 : decode mi.2.1 (pc + 4) = .ok (.ldc is, 2)) (d6 : decode mi.2.1 (pc + 6) = .ok (.invokespecial ic, 3)) (d9 : decode mi.2.1 (pc + 9) = .ok (.athrow, 1))
    (hout : ∀ x ∈ tableOf mi.2.2.2.2, covers x (pc + 9) = false) : kThr TT cl X mi pc cls (names.length + 4) (13 * (names.length + 1) + 43) :=
  fun _ _ _ _ _ _ _ _ _ hf hlo h => lx_throw hXT hXS hcls hnames hk hini hat hgood d0 d3 d4 d6 d9 hout ⟨by omega, hlo⟩ h
theorem k_thrW {cls text : String} {names : List String} {ik is ic : Nat} (hXT : mj_XT X) (hXS : mj_XS X mi.1.cls is text) (hcls : Bundle.fit cls = true) (hnames : ∀ n ∈ names, Bundle.fit n = true) (hk : Cond.classLink mi.1.cls ik cls ∈ TT) (hini : Cond.initialized cls ∈ TT) (hat : ∀ w ∈ vx_atS mi.1.cls ic cls names, w ∈ TT)
    (hgood : ∀ w ∈ Cond.classLink mi.1.cls ik cls :: Cond.initialized cls :: vx_atS mi.1.cls ic cls names, vx_ot w = true)
    (d0 : decode mi.2.1 pc = .ok (.new ik, 3)) (d3 : decode mi.2.1 (pc + 3) = .ok (.dup, 1)) (d4 : decode mi.2.1 (pc + 4) = .ok (.ldc_w is, 3)) (d7 : decode mi.2.1 (pc + 7) = .ok (.invokespecial ic, 3)) (d10 : decode mi.2.1 (pc + 10) = .ok (.athrow, 1))
    (hout : ∀ x ∈ tableOf mi.2.2.2.2, covers x (pc + 10) = false) : kThr TT cl X mi pc cls (names.length + 4) (13 * (names.length + 1) + 43) :=
  fun _ _ _ _ _ _ _ _ _ hf hlo h => lx_throwW hXT hXS hcls hnames hk hini hat hgood d0 d3 d4 d7 d10 hout ⟨by omega, hlo⟩ h
-- ===== words of the pool =====
theorem k_ldc {index : Nat} {v : Int32} (d : decode mi.2.1 pc = .ok (.ldc index, 2)) (h : Cond.constant mi.1.cls index v ∈ TT) : kPush TT cl X mi pc 2 (.int v) := fun _ _ _ _ _ _ _ _ _ kk => lx_ldc d h kk
theorem k_ldcw {index : Nat} {v : Int32} (d : decode mi.2.1 pc = .ok (.ldc_w index, 3)) (h : Cond.constant mi.1.cls index v ∈ TT) : kPush TT cl X mi pc 3 (.int v) := fun _ _ _ _ _ _ _ _ _ kk => lx_ldcw d h kk
theorem k_ldc2 {index : Nat} {v : Int64} (d : decode mi.2.1 pc = .ok (.ldc2_w index, 3)) (h : Cond.constantLong mi.1.cls index v ∈ TT) : kPush TT cl X mi pc 3 (.long v) := fun _ _ _ _ _ _ _ _ _ kk => lx_ldc2 d h kk
theorem k_gets {index k : Nat} {C n ds : String} (d : decode mi.2.1 pc = .ok (.getstatic index, 3)) (h0k : ¬ k = 0) (hX : mj_XZ X k C n ds) (h : Cond.fieldLink mi.1.cls index C n ds ∈ TT) : kPush TT cl X mi pc 3 (.retAddr k) := fun _ _ _ _ _ _ _ _ _ kk => lx_getstatic d h0k hX h kk
-- ===== Math.max, Math.min =====
theorem lx_mmax {index : Nat} {x y : Int32} (d : decode mi.2.1 pc = .ok (.invokestatic index, 3)) (hl : Cond.methodLink mi.1.cls index Lib.Math.max.name ∈ TT) (hs : Cond.static Lib.Math.max.name ∈ TT) (hi : Cond.initialized "java/lang/Math" ∈ TT) (hc : Cond.code Lib.Math.max.name Lib.Math.max.code 2 (some .int) ∈ TT) (hf : 1 ≤ fr ∧ (S.map fun v => v.category).sum + 13 ≤ lo)
    (kk : LX TT cl X mi fr lo P PX kc ks (pc + 3) L (.int (if x < y then y else x) :: S) M) : LX TT cl X mi fr lo P PX kc ks pc L (.int y :: .int x :: S) M := by
  intro p l e R s m args below meth c Qc XC free D sp A as0 F kq kx as L1 S1 H locs cells slots ls h0 hW hS hl1 hL hSt hcs hss
  have h9 := mj_al_cons hSt
  clear hSt
  obtain ⟨_, S1, rfl, rfl, hSt⟩ := h9
  have h9 := mj_al_cons hSt
  clear hSt
  obtain ⟨_, S1, rfl, rfl, hSt⟩ := h9
  refine va_mmax F.1 F.2.1 (by rw [F.2.2.1]; exact hl1.1.symm) F.2.2.2.1 (F.2.2.2.2.1 _ hl) (F.2.2.2.2.1 _ hs) (F.2.2.2.2.1 _ hi) (F.2.2.2.2.1 _ hc) (Nat.le_trans hf.1 F.2.2.2.2.2.2.2.2.2.2.1) (by rw [mj_al_cat hSt]; exact Nat.le_trans hf.2 F.2.2.2.2.2.2.2.2.2.2.2.1) (by omega) (by omega) d ?_
  exact kk p l e R s m args below meth c Qc XC free D sp A as0 F kq kx as L1 _ H locs cells slots ls h0 hW hS hl1 hL ⟨rfl, hSt⟩ hcs hss
theorem lx_mmin {index : Nat} {x y : Int32} (d : decode mi.2.1 pc = .ok (.invokestatic index, 3)) (hl : Cond.methodLink mi.1.cls index Lib.Math.min.name ∈ TT) (hs : Cond.static Lib.Math.min.name ∈ TT) (hi : Cond.initialized "java/lang/Math" ∈ TT) (hc : Cond.code Lib.Math.min.name Lib.Math.min.code 2 (some .int) ∈ TT) (hf : 1 ≤ fr ∧ (S.map fun v => v.category).sum + 13 ≤ lo)
    (kk : LX TT cl X mi fr lo P PX kc ks (pc + 3) L (.int (if y < x then y else x) :: S) M) : LX TT cl X mi fr lo P PX kc ks pc L (.int y :: .int x :: S) M := by
  intro p l e R s m args below meth c Qc XC free D sp A as0 F kq kx as L1 S1 H locs cells slots ls h0 hW hS hl1 hL hSt hcs hss
  have h9 := mj_al_cons hSt
  clear hSt
  obtain ⟨_, S1, rfl, rfl, hSt⟩ := h9
  have h9 := mj_al_cons hSt
  clear hSt
  obtain ⟨_, S1, rfl, rfl, hSt⟩ := h9
  refine va_mmin F.1 F.2.1 (by rw [F.2.2.1]; exact hl1.1.symm) F.2.2.2.1 (F.2.2.2.2.1 _ hl) (F.2.2.2.2.1 _ hs) (F.2.2.2.2.1 _ hi) (F.2.2.2.2.1 _ hc) (Nat.le_trans hf.1 F.2.2.2.2.2.2.2.2.2.2.1) (by rw [mj_al_cat hSt]; exact Nat.le_trans hf.2 F.2.2.2.2.2.2.2.2.2.2.2.1) (by omega) (by omega) d ?_
  exact kk p l e R s m args below meth c Qc XC free D sp A as0 F kq kx as L1 _ H locs cells slots ls h0 hW hS hl1 hL ⟨rfl, hSt⟩ hcs hss
def oMax (m nx : Nat) : Op := fun rec d G L S M => match S with
  | .inl (.int y) :: .inl (.int x) :: S1 => cond (Nat.ble ((S1.map scat).sum) 900) (fI (if x < y then y else x) (fun z => rec d m G nx L (.inl (.int z) :: S1) M)) none
  | _ => none
theorem oMax_ok {mis : Nat → MI} {en : Nat → String} {ρ : Nat → Int32} {m nx index : Nat} (d : decode (mis m).2.1 pc = .ok (.invokestatic index, 3)) (hl : Cond.methodLink (mis m).1.cls index Lib.Math.max.name ∈ TT) (hs : Cond.static Lib.Math.max.name ∈ TT) (hi : Cond.initialized "java/lang/Math" ∈ TT) (hc : Cond.code Lib.Math.max.name Lib.Math.max.code 2 (some .int) ∈ TT) (hn : pc + 3 = nx) : opOK TT cl X mis en ρ m pc (oMax m nx) := by
  intro rec hr dd G L S M r e hG P PX hall
  subst hn
  unfold oMax at e
  split at e
  · obtain ⟨e2, e3⟩ := cond_some e
    have h2 := Nat.le_of_ble_eq_true e2
    rw [fI_eq] at e3
    refine lx_mmax d hl hs hi hc ⟨by omega, ?_⟩ (hr _ _ _ _ _ _ _ _ e3 hG P PX hall)
    show ((sdS ρ _).map fun v => v.category).sum + 13 ≤ _
    rw [sdS_sum]; omega
  · cases e
end ST1
