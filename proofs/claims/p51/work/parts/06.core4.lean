section MJ4
/-- what a call needs of the words: the callee is no method handle, has so many parameters, its class is ready, its code is in the list -/
def mj_CS (TT : List Cond) (ci : MI) (n : Nat) : Prop :=
  (∀ w ∈ TT, mj_pw w = true) ∧ mj_cw ci ∈ TT ∧ Cond.initialized ci.1.cls ∈ TT ∧ (ci.1.cls ≠ "java/lang/invoke/MethodHandle" ∧ ci.1.cls ≠ "java/lang/invoke/VarHandle") ∧ (parseMethodDescriptor ci.1.desc).map (fun d => d.parameters.length) = some n
section
variable {TT : List Cond} {cl : List vw_C} {X : XT} {mi ci : MI} {fr lo fr1 lo1 : Nat} {P P1 : Option Value → mH → Prop} {PX PX1 : String → mH → Prop} {kc ks kc1 ks1 pc index : Nat} {L : List (Nat × Value)} {S : List Value} {M : mH} {a : List Value} {v : Value}
theorem mj_CS_n {n : Nat} (h : mj_CS TT ci n) : ∀ sig, parseMethodDescriptor ci.1.desc = some sig → n = sig.parameters.length := fun sig hs => by
  have h2 := h.2.2.2.2
  rw [hs] at h2
  exact (Option.some.inj h2).symm
theorem mj_CS_ws {n : Nat} (h : mj_CS TT ci n) {s : State} {args : Array Value} (hts : ∀ w ∈ TT, w.before args s = true) : ∀ w ∈ mj_cw ci :: TT, ∀ (a' : Array Value) (U : State), s.WarmedH U.vm → w.before a' U = true := by
  intro w hw a' U hW
  rcases List.mem_cons.mp hw with rfl | hw
  · exact mj_pw_at hW (h.1 _ h.2.1) (hts _ h.2.1)
  · exact mj_pw_at hW (h.1 _ hw) (hts _ hw)
theorem mj_pre {l : Launch} {s : State} {D : va_G} {sp : Nat → Nat} {A : Nat → Prop} {as : List Nat} {H : Heap} {locs : List Loc} {a1 : List Value} (hX : mj_XOK X) (hXs : X A sp s s.heap) (hA : ∀ q : Nat, s.heap.size ≤ q → A q) (hW : mj_WR D cl sp A s as M H) (hS : va_S A s.heap H locs) :
    ∀ U : State, U.heap = H → s.WarmedH U.vm → va_Pc a1 (mj_B cl X D sp as M H.size) a1.toArray U := by
  intro U hU hWU
  refine ⟨rfl, by rw [hU], ?_, ?_⟩
  · rw [hU]
    exact mj_WR_weaken (mj_WR_moved hWU.alike hW) (fun a ha => Or.inl ha)
  · rw [hU]
    refine hX.2.1 A _ sp U H (fun q h => ?_) (hX.2.2.1 A sp s U H hWU (hX.1 A sp s s.heap H hXs hS.1 hS.2.1))
    rcases h with h | h
    · exact mj_WR_A hW h
    · exact hA q (Nat.le_trans hS.1 h)
/-- a static call of a method of the same class without a table of exceptions -/
theorem lx_static (d : decode mi.2.1 pc = .ok (.invokestatic index, 3)) (hc : mj_CS TT ci a.length) (hh : ci.2.2.2.2 = []) (hl1 : Cond.methodLink mi.1.cls index ci.1 ∈ TT) (hs1 : Cond.static ci.1 ∈ TT) (he : EV TT cl X ci fr1 lo1 kc1 ks1 a M P1 PX1)
    (hf : fr1 + 1 ≤ fr ∧ 8 + (ci.2.2.1 + 11) + lo1 ≤ lo) (hst : (S.map fun v => v.category).sum ≤ 8)
    (kx : ∀ (E : String) (M1 : mH), PX1 E M1 → LT TT cl X mi fr lo P PX kc ks pc L E M1)
    (kk : ∀ (v : Option Value) (M1 : mH), P1 v M1 → LX TT cl X mi fr lo P PX kc ks (pc + 3) L (v.toList ++ S) M1) : LX TT cl X mi fr lo P PX (kc1 + kc) (ks1 + ks) pc L (a.reverse ++ S) M := by
  intro p l e R s m args below meth c Qc XC free D sp A as0 F kq kx0 as L1 S1 H locs cells slots ls h0 hW hS hl hL hSt hcs hss
  obtain ⟨y, cc, maxL, ret, hh9⟩ := ci
  cases (show hh9 = [] from hh)
  obtain ⟨ar, rest, rfl, har, hrest⟩ := mj_al_split hSt
  have ha1 : mj_al (mj_vr as sp) a ar.reverse := by
    have := mj_al_rev har
    rwa [List.reverse_reverse] at this
  have hrev : ar ++ rest = (ar.reverse).reverse ++ rest := by rw [List.reverse_reverse]
  have hcode : (mj_cw (y, cc, maxL, ret, ([] : List (Nat × Nat × Nat × Nat)))) ∈ TT := hc.2.1
  have hr := vx_runS (e := e) (H := H) (locs := locs) (cells := cells) (slots := slots) (g := F0 m pc ls (ar ++ rest)) (rest := rest) (below := below) (meth := meth) (n := a.length) (As := ar.reverse) (maxL := maxL) (ret := ret) (bytes := cc) ⟨F.1, F.2.1, F.2.2.1, F.2.2.2.1, F.2.2.2.2.1⟩ (he l D sp as ar.reverse H.size F.2.2.2.2.2.2.2.2.2.1 ha1)
    ⟨⟨rfl, rfl, Nat.le_trans hf.1 F.2.2.2.2.2.2.2.2.2.2.1, Nat.le_trans hf.2 F.2.2.2.2.2.2.2.2.2.2.2.1, mj_CS_ws hc F.2.2.2.2.1, List.mem_cons_self, F.2.2.2.2.1 _ hcode, F.2.2.2.2.1 _ hc.2.2.1, hc.2.2.2.1, mj_CS_n hc, F.2.2.2.2.1 _ hl1⟩, F.2.2.2.2.1 _ hs1⟩
    ⟨mj_blind F.2.2.2.2.2.2.2.2.2.2.2.2.2.2.2, mj_pre (l := l) F.2.2.2.2.2.2.2.2.2.2.2.2.2.2.2 F.2.2.2.2.2.2.2.2.2.2.2.2.2.2.1 F.2.2.2.2.2.2.2.2.2.2.2.2.1 hW hS⟩ rfl (mj_al_len ha1) hl.1 hrev (by show 2 * 0 + _ ≤ 8; rw [mj_al_cat hrest]; omega) d ⟨by omega, by omega⟩
  refine mj_ret hr hW hS F.2.2.2.2.2.2.2.2.2.2.2.2.1 ?_ ?_
  · intro E M1 as1 ce q H1 locs1 h1 h2 h3 h4 h5 h6 h7
    exact kx E M1 h1 p l e R s m args below meth c Qc XC free D sp A as0 F kq kx0 as1 L1 rest H1 locs1 (cells + kc1) (slots + ks1) ls q ce (mj_le_tr h0 h2) h3 h4 hl (mj_al_mono (fun _ _ h => mj_lr_mono h2 h) hL) (by omega) (by omega) h5 h6 h7
  · intro v w M1 as1 H1 locs1 h1 h2 h3 h4 h5
    refine kk v M1 h1 p l e R s m args below meth c Qc XC free D sp A as0 F kq kx0 as1 L1 _ H1 locs1 (cells + kc1) (slots + ks1) ls (mj_le_tr h0 h3) h4 h5 hl (mj_al_mono (fun _ _ h => mj_lr_mono h3 h) hL) ?_ (by omega) (by omega)
    have hrest1 := mj_al_mono (fun _ _ h => mj_vr_mono h3 h) hrest
    cases v with
    | none => rw [show w = none from h2]; exact hrest1
    | some v => obtain ⟨w', rfl, hv⟩ := h2; exact ⟨hv, hrest1⟩
/-- ... of a method with a table of exceptions -/
theorem lx_staticX {hd : Nat × Nat × Nat × Nat} {tl : List (Nat × Nat × Nat × Nat)} (d : decode mi.2.1 pc = .ok (.invokestatic index, 3)) (hc : mj_CS TT ci a.length) (hh : ci.2.2.2.2 = hd :: tl) (hl1 : Cond.methodLink mi.1.cls index ci.1 ∈ TT) (hs1 : Cond.static ci.1 ∈ TT) (he : EV TT cl X ci fr1 lo1 kc1 ks1 a M P1 PX1)
    (hf : fr1 + 1 ≤ fr ∧ 8 + (ci.2.2.1 + 11) + lo1 ≤ lo) (hst : (S.map fun v => v.category).sum ≤ 8)
    (kx : ∀ (E : String) (M1 : mH), PX1 E M1 → LT TT cl X mi fr lo P PX kc ks pc L E M1)
    (kk : ∀ (v : Option Value) (M1 : mH), P1 v M1 → LX TT cl X mi fr lo P PX kc ks (pc + 3) L (v.toList ++ S) M1) : LX TT cl X mi fr lo P PX (kc1 + kc) (ks1 + ks) pc L (a.reverse ++ S) M := by
  intro p l e R s m args below meth c Qc XC free D sp A as0 F kq kx0 as L1 S1 H locs cells slots ls h0 hW hS hl hL hSt hcs hss
  obtain ⟨y, cc, maxL, ret, hh9⟩ := ci
  cases (show hh9 = hd :: tl from hh)
  obtain ⟨ar, rest, rfl, har, hrest⟩ := mj_al_split hSt
  have ha1 : mj_al (mj_vr as sp) a ar.reverse := by
    have := mj_al_rev har
    rwa [List.reverse_reverse] at this
  have hrev : ar ++ rest = (ar.reverse).reverse ++ rest := by rw [List.reverse_reverse]
  have hcode : (mj_cw (y, cc, maxL, ret, hd :: tl)) ∈ TT := hc.2.1
  have hr := vx_runSX (e := e) (H := H) (locs := locs) (cells := cells) (slots := slots) (g := F0 m pc ls (ar ++ rest)) (rest := rest) (below := below) (meth := meth) (n := a.length) (As := ar.reverse) (maxL := maxL) (ret := ret) (bytes := cc) (hh := hd :: tl) ⟨F.1, F.2.1, F.2.2.1, F.2.2.2.1, F.2.2.2.2.1⟩ (he l D sp as ar.reverse H.size F.2.2.2.2.2.2.2.2.2.1 ha1)
    ⟨⟨rfl, rfl, Nat.le_trans hf.1 F.2.2.2.2.2.2.2.2.2.2.1, Nat.le_trans hf.2 F.2.2.2.2.2.2.2.2.2.2.2.1, mj_CS_ws hc F.2.2.2.2.1, List.mem_cons_self⟩, F.2.2.2.2.1 _ hcode, F.2.2.2.2.1 _ hc.2.2.1, hc.2.2.2.1, mj_CS_n hc, F.2.2.2.2.1 _ hl1, F.2.2.2.2.1 _ hs1⟩
    ⟨mj_blind F.2.2.2.2.2.2.2.2.2.2.2.2.2.2.2, mj_pre (l := l) F.2.2.2.2.2.2.2.2.2.2.2.2.2.2.2 F.2.2.2.2.2.2.2.2.2.2.2.2.2.2.1 F.2.2.2.2.2.2.2.2.2.2.2.2.1 hW hS⟩ rfl (mj_al_len ha1) hl.1 hrev (by show 2 * 0 + _ ≤ 8; rw [mj_al_cat hrest]; omega) d ⟨by omega, by omega⟩
  refine mj_ret hr hW hS F.2.2.2.2.2.2.2.2.2.2.2.2.1 ?_ ?_
  · intro E M1 as1 ce q H1 locs1 h1 h2 h3 h4 h5 h6 h7
    exact kx E M1 h1 p l e R s m args below meth c Qc XC free D sp A as0 F kq kx0 as1 L1 rest H1 locs1 (cells + kc1) (slots + ks1) ls q ce (mj_le_tr h0 h2) h3 h4 hl (mj_al_mono (fun _ _ h => mj_lr_mono h2 h) hL) (by omega) (by omega) h5 h6 h7
  · intro v w M1 as1 H1 locs1 h1 h2 h3 h4 h5
    refine kk v M1 h1 p l e R s m args below meth c Qc XC free D sp A as0 F kq kx0 as1 L1 _ H1 locs1 (cells + kc1) (slots + ks1) ls (mj_le_tr h0 h3) h4 h5 hl (mj_al_mono (fun _ _ h => mj_lr_mono h3 h) hL) ?_ (by omega) (by omega)
    have hrest1 := mj_al_mono (fun _ _ h => mj_vr_mono h3 h) hrest
    cases v with
    | none => rw [show w = none from h2]; exact hrest1
    | some v => obtain ⟨w', rfl, hv⟩ := h2; exact ⟨hv, hrest1⟩
/-- from a Run that can't throw -/
theorem mj_vx {p : Program} {l : Launch} {e : Env} {R : Room} {s : State} {m : MethodId} {args : Array Value} {below : List Frame} {meth : Method} {c : Code} {H : Heap} {locs : List Loc} {cells slots mc ms : Nat} {g : JFrame} {rest : List Value} {Qa : State → Outcome → State → Prop} {XC : String → State → State → Prop} {free : Addr → Prop}
    (h : va_Run p l e R s m args below meth c H locs cells slots mc ms g rest Qa free) : vx_Run p l e R s m args below meth c H locs cells slots mc ms g rest Qa XC free := fun T hT X => Or.inl (h T hT X)
/-- a static call of a method of a nest mate, which doesn't throw -/
theorem lx_staticN {host : String} (d : decode mi.2.1 pc = .ok (.invokestatic index, 3)) (hc : mj_CS TT ci a.length) (hh : ci.2.2.2.2 = []) (hl1 : Cond.methodLinkNest mi.1.cls index ci.1 host ∈ TT) (hs1 : Cond.static ci.1 ∈ TT) (he : EV TT cl X ci fr1 lo1 kc1 ks1 a M P1 (fun _ _ => False))
    (hf : fr1 + 1 ≤ fr ∧ 8 + (ci.2.2.1 + 11) + lo1 ≤ lo) (hst : (S.map fun v => v.category).sum ≤ 8)
    (kk : ∀ (v : Option Value) (M1 : mH), P1 v M1 → LX TT cl X mi fr lo P PX kc ks (pc + 3) L (v.toList ++ S) M1) : LX TT cl X mi fr lo P PX (kc1 + kc) (ks1 + ks) pc L (a.reverse ++ S) M := by
  intro p l e R s m args below meth c Qc XC free D sp A as0 F kq kx0 as L1 S1 H locs cells slots ls h0 hW hS hl hL hSt hcs hss
  obtain ⟨y, cc, maxL, ret, hh9⟩ := ci
  cases (show hh9 = [] from hh)
  obtain ⟨ar, rest, rfl, har, hrest⟩ := mj_al_split hSt
  have ha1 : mj_al (mj_vr as sp) a ar.reverse := by
    have := mj_al_rev har
    rwa [List.reverse_reverse] at this
  have hrev : ar ++ rest = (ar.reverse).reverse ++ rest := by rw [List.reverse_reverse]
  have hcode : (mj_cw (y, cc, maxL, ret, ([] : List (Nat × Nat × Nat × Nat)))) ∈ TT := hc.2.1
  have hr := mj_vx (XC := mj_QX cl (fun _ _ => False) D sp as H.size) (va_runSN (e := e) (H := H) (locs := locs) (cells := cells) (slots := slots) (g := F0 m pc ls (ar ++ rest)) (rest := rest) (below := below) (meth := meth) (n := a.length) (As := ar.reverse) (maxL := maxL) (ret := ret) (bytes := cc) (host := host) ⟨F.1, F.2.1, F.2.2.1, F.2.2.2.1, F.2.2.2.2.1⟩ (mj_met (he l D sp as ar.reverse H.size F.2.2.2.2.2.2.2.2.2.1 ha1) (fun E st t h => by obtain ⟨_, _, h, _⟩ := h; exact h))
    ⟨⟨⟨rfl, rfl, Nat.le_trans hf.1 F.2.2.2.2.2.2.2.2.2.2.1, Nat.le_trans hf.2 F.2.2.2.2.2.2.2.2.2.2.2.1, mj_CS_ws hc F.2.2.2.2.1, List.mem_cons_self⟩, F.2.2.2.2.1 _ hcode, F.2.2.2.2.1 _ hc.2.2.1, hc.2.2.2.1, mj_CS_n hc, F.2.2.2.2.1 _ hl1⟩, F.2.2.2.2.1 _ hs1, trivial⟩
    ⟨mj_blind F.2.2.2.2.2.2.2.2.2.2.2.2.2.2.2, mj_pre (l := l) F.2.2.2.2.2.2.2.2.2.2.2.2.2.2.2 F.2.2.2.2.2.2.2.2.2.2.2.2.2.2.1 F.2.2.2.2.2.2.2.2.2.2.2.2.1 hW hS⟩ rfl (mj_al_len ha1) hl.1 hrev (by show 2 * 0 + _ ≤ 8; rw [mj_al_cat hrest]; omega) d ⟨by omega, by omega⟩)
  refine mj_ret hr hW hS F.2.2.2.2.2.2.2.2.2.2.2.2.1 (fun _ _ _ _ _ _ _ h => h.elim) ?_
  intro v w M1 as1 H1 locs1 h1 h2 h3 h4 h5
  refine kk v M1 h1 p l e R s m args below meth c Qc XC free D sp A as0 F kq kx0 as1 L1 _ H1 locs1 (cells + kc1) (slots + ks1) ls (mj_le_tr h0 h3) h4 h5 hl (mj_al_mono (fun _ _ h => mj_lr_mono h3 h) hL) ?_ (by omega) (by omega)
  have hrest1 := mj_al_mono (fun _ _ h => mj_vr_mono h3 h) hrest
  cases v with
  | none => rw [show w = none from h2]; exact hrest1
  | some v => obtain ⟨w', rfl, hv⟩ := h2; exact ⟨hv, hrest1⟩
/-- the receiver's cell -/
theorem mj_recv {D : va_G} {sp : Nat → Nat} {A : Nat → Prop} {s : State} {as : List Nat} {H : Heap} {i k b : Nat} {C : String} {T : u_T} {N : Nat} {fs : List Value} (hW : mj_WR D cl sp A s as M H) (hi : M[i]? = some (.inr (k, fs))) (hb : as[i]? = some b) (hk : cl[k]? = some (C, T, N)) : ∃ cellB : Cell, H[b]? = some cellB ∧ cellB.vm.isStatics = false ∧ s.vm.findClass C = some cellB.cls := by
  obtain ⟨ws, tys, hK, hP, hD, hr⟩ := hW
  obtain ⟨gs, h1, h2⟩ := mj_obj hr hb hi
  exact va_recv hK hP (ci := k) (q0 := i) hk h1
/-- a call of a method of an object, by its own class -/
theorem lx_virtual {i k N : Nat} {C : String} {T : u_T} {fs : List Value} (d : decode mi.2.1 pc = .ok (.invokevirtual index, 3)) (hc : mj_CS TT ci a.length) (hh : ci.2.2.2.2 = []) (hM : M[i]? = some (.inr (k, fs))) (hk : cl[k]? = some (C, T, N)) (hl1 : Cond.methodLink mi.1.cls index ci.1 ∈ TT) (hs1 : Cond.instanceMethod ci.1 ∈ TT) (hs2 : Cond.selects C ci.1 ci.1 ∈ TT)
    (he : EV TT cl X ci fr1 lo1 kc1 ks1 (.ref i :: a) M P1 PX1)
    (hf : fr1 + 1 ≤ fr ∧ 8 + (ci.2.2.1 + 11) + lo1 ≤ lo) (hst : (S.map fun v => v.category).sum ≤ 8)
    (kx : ∀ (E : String) (M1 : mH), PX1 E M1 → LT TT cl X mi fr lo P PX kc ks pc L E M1)
    (kk : ∀ (v : Option Value) (M1 : mH), P1 v M1 → LX TT cl X mi fr lo P PX kc ks (pc + 3) L (v.toList ++ S) M1) : LX TT cl X mi fr lo P PX (kc1 + kc) (ks1 + ks) pc L (a.reverse ++ .ref i :: S) M := by
  intro p l e R s m args below meth c Qc XC free D sp A as0 F kq kx0 as L1 S1 H locs cells slots ls h0 hW hS hl hL hSt hcs hss
  obtain ⟨y, cc, maxL, ret, hh9⟩ := ci
  cases (show hh9 = [] from hh)
  obtain ⟨ar, rest, rfl, har, hrest⟩ := mj_al_split hSt
  have hz9 := mj_al_cons hrest
  clear hrest
  obtain ⟨b9, rest, rfl, ⟨b, hb, rfl⟩, hrest⟩ := hz9
  have ha1 : mj_al (mj_vr as sp) a ar.reverse := by
    have := mj_al_rev har
    rwa [List.reverse_reverse] at this
  have hrev : ar ++ .ref b :: rest = (ar.reverse).reverse ++ .ref b :: rest := by rw [List.reverse_reverse]
  have hcode : (mj_cw (y, cc, maxL, ret, ([] : List (Nat × Nat × Nat × Nat)))) ∈ TT := hc.2.1
  have hr := vx_runV (e := e) (H := H) (locs := locs) (cells := cells) (slots := slots) (g := F0 m pc ls (ar ++ .ref b :: rest)) (rest := rest) (below := below) (meth := meth) (n := a.length) (As := ar.reverse) (b := b) (C := C) (maxL := maxL) (ret := ret) (bytes := cc) ⟨F.1, F.2.1, F.2.2.1, F.2.2.2.1, F.2.2.2.2.1⟩ (he l D sp as (.ref b :: ar.reverse) H.size F.2.2.2.2.2.2.2.2.2.1 ⟨⟨b, hb, rfl⟩, ha1⟩)
    ⟨⟨rfl, rfl, Nat.le_trans hf.1 F.2.2.2.2.2.2.2.2.2.2.1, Nat.le_trans hf.2 F.2.2.2.2.2.2.2.2.2.2.2.1, mj_CS_ws hc F.2.2.2.2.1, List.mem_cons_self, F.2.2.2.2.1 _ hcode, F.2.2.2.2.1 _ hc.2.2.1, hc.2.2.2.1, mj_CS_n hc, F.2.2.2.2.1 _ hl1⟩, F.2.2.2.2.1 _ hs1, F.2.2.2.2.1 _ hs2⟩
    ⟨mj_blind F.2.2.2.2.2.2.2.2.2.2.2.2.2.2.2, mj_recv hW hM hb hk, mj_pre (l := l) F.2.2.2.2.2.2.2.2.2.2.2.2.2.2.2 F.2.2.2.2.2.2.2.2.2.2.2.2.2.2.1 F.2.2.2.2.2.2.2.2.2.2.2.2.1 hW hS⟩ rfl (mj_al_len ha1) hl.1 hrev (by show 2 * 0 + _ ≤ 8; rw [mj_al_cat hrest]; omega) d ⟨by omega, by omega⟩
  refine mj_ret hr hW hS F.2.2.2.2.2.2.2.2.2.2.2.2.1 ?_ ?_
  · intro E M1 as1 ce q H1 locs1 h1 h2 h3 h4 h5 h6 h7
    exact kx E M1 h1 p l e R s m args below meth c Qc XC free D sp A as0 F kq kx0 as1 L1 rest H1 locs1 (cells + kc1) (slots + ks1) ls q ce (mj_le_tr h0 h2) h3 h4 hl (mj_al_mono (fun _ _ h => mj_lr_mono h2 h) hL) (by omega) (by omega) h5 h6 h7
  · intro v w M1 as1 H1 locs1 h1 h2 h3 h4 h5
    refine kk v M1 h1 p l e R s m args below meth c Qc XC free D sp A as0 F kq kx0 as1 L1 _ H1 locs1 (cells + kc1) (slots + ks1) ls (mj_le_tr h0 h3) h4 h5 hl (mj_al_mono (fun _ _ h => mj_lr_mono h3 h) hL) ?_ (by omega) (by omega)
    have hrest1 := mj_al_mono (fun _ _ h => mj_vr_mono h3 h) hrest
    cases v with
    | none => rw [show w = none from h2]; exact hrest1
    | some v => obtain ⟨w', rfl, hv⟩ := h2; exact ⟨hv, hrest1⟩
/-- a constructor, which doesn't throw -/
theorem lx_init {i : Nat} (d : decode mi.2.1 pc = .ok (.invokespecial index, 3)) (hc : mj_CS TT ci a.length) (hh : ci.2.2.2.2 = []) (hr0 : ci.2.2.2.1 = none) (hn : ci.1.name = "<init>") (hl1 : Cond.methodLink mi.1.cls index ci.1 ∈ TT) (hs1 : Cond.instanceMethod ci.1 ∈ TT)
    (he : EV TT cl X ci fr1 lo1 kc1 ks1 (.ref i :: a) M P1 (fun _ _ => False))
    (hf : fr1 + 1 ≤ fr ∧ 8 + (ci.2.2.1 + 11) + lo1 ≤ lo) (hst : (S.map fun v => v.category).sum ≤ 8)
    (kk : ∀ (v : Option Value) (M1 : mH), P1 v M1 → LX TT cl X mi fr lo P PX kc ks (pc + 3) L (v.toList ++ S) M1) : LX TT cl X mi fr lo P PX (kc1 + kc) (ks1 + ks) pc L (a.reverse ++ .ref i :: S) M := by
  intro p l e R s m args below meth c Qc XC free D sp A as0 F kq kx0 as L1 S1 H locs cells slots ls h0 hW hS hl hL hSt hcs hss
  obtain ⟨y, cc, maxL, ret, hh9⟩ := ci
  cases (show hh9 = [] from hh)
  cases (show ret = none from hr0)
  obtain ⟨ar, rest, rfl, har, hrest⟩ := mj_al_split hSt
  have hz9 := mj_al_cons hrest
  clear hrest
  obtain ⟨b9, rest, rfl, ⟨b, hb, rfl⟩, hrest⟩ := hz9
  have ha1 : mj_al (mj_vr as sp) a ar.reverse := by
    have := mj_al_rev har
    rwa [List.reverse_reverse] at this
  have hrev : ar ++ .ref b :: rest = (ar.reverse).reverse ++ .ref b :: rest := by rw [List.reverse_reverse]
  have hcode : (mj_cw (y, cc, maxL, (none : Option FieldType), ([] : List (Nat × Nat × Nat × Nat)))) ∈ TT := hc.2.1
  have hr := mj_vx (XC := mj_QX cl (fun _ _ => False) D sp as H.size) (va_runI (e := e) (H := H) (locs := locs) (cells := cells) (slots := slots) (g := F0 m pc ls (ar ++ .ref b :: rest)) (rest := rest) (below := below) (meth := meth) (n := a.length) (As := ar.reverse) (b := b) (maxL := maxL) (bytes := cc) ⟨F.1, F.2.1, F.2.2.1, F.2.2.2.1, F.2.2.2.2.1⟩ (mj_met (he l D sp as (.ref b :: ar.reverse) H.size F.2.2.2.2.2.2.2.2.2.1 ⟨⟨b, hb, rfl⟩, ha1⟩) (fun E st t h => by obtain ⟨_, _, h, _⟩ := h; exact h))
    ⟨⟨rfl, rfl, Nat.le_trans hf.1 F.2.2.2.2.2.2.2.2.2.2.1, Nat.le_trans hf.2 F.2.2.2.2.2.2.2.2.2.2.2.1, mj_CS_ws hc F.2.2.2.2.1, List.mem_cons_self, F.2.2.2.2.1 _ hcode, F.2.2.2.2.1 _ hc.2.2.1, hc.2.2.2.1, mj_CS_n hc, F.2.2.2.2.1 _ hl1⟩, hn, F.2.2.2.2.1 _ hs1⟩
    ⟨mj_blind F.2.2.2.2.2.2.2.2.2.2.2.2.2.2.2, mj_pre (l := l) F.2.2.2.2.2.2.2.2.2.2.2.2.2.2.2 F.2.2.2.2.2.2.2.2.2.2.2.2.2.2.1 F.2.2.2.2.2.2.2.2.2.2.2.2.1 hW hS⟩ rfl (mj_al_len ha1) hl.1 hrev (by show 2 * 0 + _ ≤ 8; rw [mj_al_cat hrest]; omega) d ⟨by omega, by omega⟩)
  refine mj_ret hr hW hS F.2.2.2.2.2.2.2.2.2.2.2.2.1 (fun _ _ _ _ _ _ _ h => h.elim) ?_
  intro v w M1 as1 H1 locs1 h1 h2 h3 h4 h5
  refine kk v M1 h1 p l e R s m args below meth c Qc XC free D sp A as0 F kq kx0 as1 L1 _ H1 locs1 (cells + kc1) (slots + ks1) ls (mj_le_tr h0 h3) h4 h5 hl (mj_al_mono (fun _ _ h => mj_lr_mono h3 h) hL) ?_ (by omega) (by omega)
  have hrest1 := mj_al_mono (fun _ _ h => mj_vr_mono h3 h) hrest
  cases v with
  | none => rw [show w = none from h2]; exact hrest1
  | some v => obtain ⟨w', rfl, hv⟩ := h2; exact ⟨hv, hrest1⟩
/-- Object's constructor -/
theorem lx_objInit {i : Nat} (d : decode mi.2.1 pc = .ok (.invokespecial index, 3)) (hl1 : Cond.methodLink mi.1.cls index Lib.objectInit ∈ TT) (hs1 : Cond.instanceMethod Lib.objectInit ∈ TT) (hcode : Cond.code Lib.objectInit ⟨#[0xb1]⟩ 1 none ∈ TT) (hf : 1 ≤ fr ∧ (S.map fun v => v.category).sum + 12 ≤ lo)
    (kk : LX TT cl X mi fr lo P PX kc ks (pc + 3) L S M) : LX TT cl X mi fr lo P PX kc ks pc L (.ref i :: S) M := by
  intro p l e R s m args below meth c Qc XC free D sp A as0 F kq kx0 as L1 S1 H locs cells slots ls h0 hW hS hl hL hSt hcs hss
  have hz9 := mj_al_cons hSt
  clear hSt
  obtain ⟨b9, rest, rfl, ⟨b, hb, rfl⟩, hrest⟩ := hz9
  refine W.objInit F.1 F.2.1 F.2.2.2.1 (F.2.2.2.2.1 _ hl1) (F.2.2.2.2.1 _ hs1) (F.2.2.2.2.1 _ hcode) rfl (by rw [F.2.2.1]; exact hl.1) rfl d (Nat.le_trans hf.1 F.2.2.2.2.2.2.2.2.2.2.1) (by show 2 * 0 + _ + 12 ≤ _; rw [mj_al_cat hrest]; have := F.2.2.2.2.2.2.2.2.2.2.2.1; omega) ?_
  exact kk p l e R s m args below meth c Qc XC free D sp A as0 F kq kx0 as L1 _ H locs cells slots ls h0 hW hS hl hL hrest hcs hss
end
end MJ4
