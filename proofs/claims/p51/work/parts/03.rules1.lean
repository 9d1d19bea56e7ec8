section MJR1
/-- what a local holds -/
def mj_get (L : List (Nat × Value)) (i : Nat) : Option Value := (L.find? (fun q => q.1 == i)).map (fun q => q.2)
def mj_put1 (i : Nat) (v : Value) (L : List (Nat × Value)) : List (Nat × Value) := (i, v) :: L.filter (fun q => !(q.1 == i) && !(q.1 + 1 == i && q.2.category == 2))
def mj_put2 (i : Nat) (v : Value) (L : List (Nat × Value)) : List (Nat × Value) := (i, v) :: L.filter (fun q => !(q.1 == i) && (!(q.1 == i + 1) && !(q.1 + 1 == i && q.2.category == 2)))
def mj_isr (v : Value) : Bool := match v with | .ref _ => true | .retAddr _ => true | .null => true | _ => false
def mj_isR (v : Value) : Bool := match v with | .ref _ => true | .retAddr _ => true | _ => false
theorem mj_isr_spec {as : List Nat} {sp : Nat → Nat} {v w : Value} (h : mj_isr v = true) (hr : mj_vr as sp v w) : (∃ a, w = .ref a) ∨ w = .null := by
  cases v with
  | ref i => obtain ⟨a, h1, h2⟩ := hr; exact Or.inl ⟨a, h2⟩
  | retAddr k => obtain ⟨a, h2, h1⟩ := hr; exact Or.inl ⟨a, h2⟩
  | null => exact Or.inr hr
  | int x => cases h
  | long x => cases h
  | float x => cases h
  | double x => cases h
theorem mj_isR_spec {as : List Nat} {sp : Nat → Nat} {v w : Value} (h : mj_isR v = true) (hr : mj_vr as sp v w) : ∃ a, w = .ref a := by
  cases v with
  | ref i => obtain ⟨a, h1, h2⟩ := hr; exact ⟨a, h2⟩
  | retAddr k => obtain ⟨a, h2, h1⟩ := hr; exact ⟨a, h2⟩
  | null => cases h
  | int x => cases h
  | long x => cases h
  | float x => cases h
  | double x => cases h
theorem mj_get_mem {L : List (Nat × Value)} {i : Nat} {v : Value} (h : mj_get L i = some v) : (i, v) ∈ L := by
  unfold mj_get at h
  cases hf : L.find? (fun q => q.1 == i) with
  | none => rw [hf] at h; cases h
  | some q =>
    rw [hf] at h
    have h1 := List.find?_some hf
    have h2 := List.mem_of_find?_eq_some hf
    have e1 : q.1 = i := by simpa using h1
    have e2 : q.2 = v := by simpa using h
    rw [← e1, ← e2]
    exact h2
theorem mj_ldk {as : List Nat} {sp : Nat → Nat} {L L1 : List (Nat × Value)} (hL : mj_al (mj_lr as sp) L L1) {i : Nat} {v : Value} (hg : mj_get L i = some v) : ∃ (k : Nat) (w : Value), L1[k]? = some (i, w) ∧ mj_vr as sp v w := by
  obtain ⟨k, hk⟩ := List.getElem?_of_mem (mj_get_mem hg)
  obtain ⟨⟨j, w⟩, h1, h2, h3⟩ := mj_al_get hL hk
  cases (show j = i from h2)
  exact ⟨k, w, h1, h3⟩
theorem mj_ldr {as : List Nat} {sp : Nat → Nat} {ls : Array Slot} {nL : Nat} {L L1 : List (Nat × Value)} (hl : lv_has ls nL L1) (hL : mj_al (mj_lr as sp) L L1) {i : Nat} {v : Value} (hg : mj_get L i = some v) : ∃ w, ls[i]? = some (.val w) ∧ mj_vr as sp v w := by
  obtain ⟨k, w, h1, h2⟩ := mj_ldk hL hg
  exact ⟨w, lv_at hl k h1, h2⟩
def mj_pl (v : Value) : Bool := match v with | .ref _ => false | .retAddr _ => false | _ => true
theorem mj_pl_eq {as : List Nat} {sp : Nat → Nat} {v w : Value} (h : mj_pl v = true) (hr : mj_vr as sp v w) : w = v := by
  cases v with
  | ref i => cases h
  | retAddr k => cases h
  | null => exact hr
  | int x => exact hr
  | long x => exact hr
  | float x => exact hr
  | double x => exact hr
theorem mj_pl_rf {as : List Nat} {sp : Nat → Nat} {v : Value} (h : mj_pl v = true) : mj_vr as sp v v := by
  cases v with
  | ref i => cases h
  | retAddr k => cases h
  | null => rfl
  | int x => rfl
  | long x => rfl
  | float x => rfl
  | double x => rfl
theorem mj_ld {as : List Nat} {sp : Nat → Nat} {ls : Array Slot} {nL : Nat} {L L1 : List (Nat × Value)} (hl : lv_has ls nL L1) (hL : mj_al (mj_lr as sp) L L1) {i : Nat} {v : Value} (hg : mj_get L i = some v) (hv : mj_pl v = true) : ls[i]? = some (.val v) := by
  obtain ⟨w, h1, h2⟩ := mj_ldr hl hL hg
  rw [mj_pl_eq hv h2] at h1
  exact h1
theorem mj_put1_al {as : List Nat} {sp : Nat → Nat} {i : Nat} {v w : Value} (hv : mj_vr as sp v w) {L L1 : List (Nat × Value)} (hL : mj_al (mj_lr as sp) L L1) : mj_al (mj_lr as sp) (mj_put1 i v L) ((i, w) :: L1.filter (fun q => !(q.1 == i) && !(q.1 + 1 == i && q.2.category == 2))) :=
  ⟨⟨rfl, hv⟩, mj_al_filter (fun a b h => by rw [h.1, mj_vr_cat h.2]) hL⟩
theorem mj_put2_al {as : List Nat} {sp : Nat → Nat} {i : Nat} {v w : Value} (hv : mj_vr as sp v w) {L L1 : List (Nat × Value)} (hL : mj_al (mj_lr as sp) L L1) : mj_al (mj_lr as sp) (mj_put2 i v L) ((i, w) :: L1.filter (fun q => !(q.1 == i) && (!(q.1 == i + 1) && !(q.1 + 1 == i && q.2.category == 2)))) :=
  ⟨⟨rfl, hv⟩, mj_al_filter (fun a b h => by rw [h.1, mj_vr_cat h.2]) hL⟩
theorem mj_pick {as : List Nat} {sp : Nat → Nat} {L L1 : List (Nat × Value)} (hL : mj_al (mj_lr as sp) L L1) (is : List Nat) : ∃ L3, lv_pick L1 is = L3 ∧ mj_al (mj_lr as sp) (lv_pick L is) L3 := by
  refine ⟨_, rfl, ?_⟩
  induction is with
  | nil => trivial
  | cons i is ih =>
    unfold lv_pick at ih ⊢
    rw [List.filterMap_cons, List.filterMap_cons]
    cases hk : L[i]? with
    | none =>
      have : L1[i]? = none := by
        rw [List.getElem?_eq_none_iff, mj_al_len hL]
        exact List.getElem?_eq_none_iff.mp hk
      rw [this]
      exact ih
    | some q =>
      obtain ⟨b, h1, h2⟩ := mj_al_get hL hk
      rw [h1]
      exact ⟨h2, ih⟩
variable {TT : List Cond} {cl : List vw_C} {X : XT} {mi : MI} {fr lo : Nat} {P : Option Value → mH → Prop} {PX : String → mH → Prop} {kc ks pc : Nat} {L : List (Nat × Value)} {S : List Value} {M : mH}
theorem lx_iconst {n : Int} {v : Int32} (d : decode mi.2.1 pc = .ok (.iconst n, 1)) (hv : Int32.ofInt n = v) (k : LX TT cl X mi fr lo P PX kc ks (pc + 1) L (.int v :: S) M) : LX TT cl X mi fr lo P PX kc ks pc L S M := by
  intro p l e R s m args below meth c Qc XC free D sp A as0 F kq kx as L1 S1 H locs cells slots ls h0 hW hS hl hL hSt hc hs
  exact lv_iconst F.1 F.2.1 d hv (k p l e R s m args below meth c Qc XC free D sp A as0 F kq kx as L1 _ H locs cells slots ls h0 hW hS hl hL ⟨rfl, hSt⟩ hc hs)
theorem lx_bipush {n : Int} {v : Int32} (d : decode mi.2.1 pc = .ok (.bipush n, 2)) (hv : (Int8.ofInt n).toInt32 = v) (k : LX TT cl X mi fr lo P PX kc ks (pc + 2) L (.int v :: S) M) : LX TT cl X mi fr lo P PX kc ks pc L S M := by
  intro p l e R s m args below meth c Qc XC free D sp A as0 F kq kx as L1 S1 H locs cells slots ls h0 hW hS hl hL hSt hc hs
  exact lv_bipush F.1 F.2.1 d hv (k p l e R s m args below meth c Qc XC free D sp A as0 F kq kx as L1 _ H locs cells slots ls h0 hW hS hl hL ⟨rfl, hSt⟩ hc hs)
theorem lx_sipush {n : Int} {v : Int32} (d : decode mi.2.1 pc = .ok (.sipush n, 3)) (hv : (Int16.ofInt n).toInt32 = v) (k : LX TT cl X mi fr lo P PX kc ks (pc + 3) L (.int v :: S) M) : LX TT cl X mi fr lo P PX kc ks pc L S M := by
  intro p l e R s m args below meth c Qc XC free D sp A as0 F kq kx as L1 S1 H locs cells slots ls h0 hW hS hl hL hSt hc hs
  exact lv_sipush F.1 F.2.1 d hv (k p l e R s m args below meth c Qc XC free D sp A as0 F kq kx as L1 _ H locs cells slots ls h0 hW hS hl hL ⟨rfl, hSt⟩ hc hs)
theorem lx_lconst {n : Fin 2} {v : Int64} (d : decode mi.2.1 pc = .ok (.lconst n, 1)) (hv : Int64.ofNat (n : Nat) = v) (k : LX TT cl X mi fr lo P PX kc ks (pc + 1) L (.long v :: S) M) : LX TT cl X mi fr lo P PX kc ks pc L S M := by
  intro p l e R s m args below meth c Qc XC free D sp A as0 F kq kx as L1 S1 H locs cells slots ls h0 hW hS hl hL hSt hc hs
  exact lv_lconst F.1 F.2.1 d hv (k p l e R s m args below meth c Qc XC free D sp A as0 F kq kx as L1 _ H locs cells slots ls h0 hW hS hl hL ⟨rfl, hSt⟩ hc hs)
theorem lx_null  (d : decode mi.2.1 pc = .ok (.aconst_null, 1)) (k : LX TT cl X mi fr lo P PX kc ks (pc + 1) L (.null :: S) M) : LX TT cl X mi fr lo P PX kc ks pc L S M := by
  intro p l e R s m args below meth c Qc XC free D sp A as0 F kq kx as L1 S1 H locs cells slots ls h0 hW hS hl hL hSt hc hs
  exact lv_null F.1 F.2.1 d (k p l e R s m args below meth c Qc XC free D sp A as0 F kq kx as L1 _ H locs cells slots ls h0 hW hS hl hL ⟨rfl, hSt⟩ hc hs)
theorem lx_fconst0  (d : decode mi.2.1 pc = .ok (.fconst 0, 1)) (k : LX TT cl X mi fr lo P PX kc ks (pc + 1) L (.float 0 :: S) M) : LX TT cl X mi fr lo P PX kc ks pc L S M := by
  intro p l e R s m args below meth c Qc XC free D sp A as0 F kq kx as L1 S1 H locs cells slots ls h0 hW hS hl hL hSt hc hs
  exact lv_fconst0 F.1 F.2.1 d (k p l e R s m args below meth c Qc XC free D sp A as0 F kq kx as L1 _ H locs cells slots ls h0 hW hS hl hL ⟨rfl, hSt⟩ hc hs)
theorem lx_dconst0  (d : decode mi.2.1 pc = .ok (.dconst 0, 1)) (k : LX TT cl X mi fr lo P PX kc ks (pc + 1) L (.double 0 :: S) M) : LX TT cl X mi fr lo P PX kc ks pc L S M := by
  intro p l e R s m args below meth c Qc XC free D sp A as0 F kq kx as L1 S1 H locs cells slots ls h0 hW hS hl hL hSt hc hs
  exact lv_dconst0 F.1 F.2.1 d (k p l e R s m args below meth c Qc XC free D sp A as0 F kq kx as L1 _ H locs cells slots ls h0 hW hS hl hL ⟨rfl, hSt⟩ hc hs)
theorem lx_iload_n {n : Fin 4} {i : Nat} {x : Int32} (d : decode mi.2.1 pc = .ok (.iload_n n, 1)) (hi : (n : Nat) = i) (hg : mj_get L i = some (.int x)) (k : LX TT cl X mi fr lo P PX kc ks (pc + 1) L (.int x :: S) M) : LX TT cl X mi fr lo P PX kc ks pc L S M := by
  intro p l e R s m args below meth c Qc XC free D sp A as0 F kq kx as L1 S1 H locs cells slots ls h0 hW hS hl hL hSt hc hs
  exact lv_iload_n F.1 F.2.1 d hi (mj_ld hl hL hg rfl) (k p l e R s m args below meth c Qc XC free D sp A as0 F kq kx as L1 _ H locs cells slots ls h0 hW hS hl hL ⟨rfl, hSt⟩ hc hs)
theorem lx_iload {i : Nat} {x : Int32} (d : decode mi.2.1 pc = .ok (.iload i, 2)) (hg : mj_get L i = some (.int x)) (k : LX TT cl X mi fr lo P PX kc ks (pc + 2) L (.int x :: S) M) : LX TT cl X mi fr lo P PX kc ks pc L S M := by
  intro p l e R s m args below meth c Qc XC free D sp A as0 F kq kx as L1 S1 H locs cells slots ls h0 hW hS hl hL hSt hc hs
  exact lv_iload F.1 F.2.1 d (mj_ld hl hL hg rfl) (k p l e R s m args below meth c Qc XC free D sp A as0 F kq kx as L1 _ H locs cells slots ls h0 hW hS hl hL ⟨rfl, hSt⟩ hc hs)
theorem lx_lload_n {n : Fin 4} {i : Nat} {x : Int64} (d : decode mi.2.1 pc = .ok (.lload_n n, 1)) (hi : (n : Nat) = i) (hg : mj_get L i = some (.long x)) (k : LX TT cl X mi fr lo P PX kc ks (pc + 1) L (.long x :: S) M) : LX TT cl X mi fr lo P PX kc ks pc L S M := by
  intro p l e R s m args below meth c Qc XC free D sp A as0 F kq kx as L1 S1 H locs cells slots ls h0 hW hS hl hL hSt hc hs
  exact lv_lload_n F.1 F.2.1 d hi (mj_ld hl hL hg rfl) (k p l e R s m args below meth c Qc XC free D sp A as0 F kq kx as L1 _ H locs cells slots ls h0 hW hS hl hL ⟨rfl, hSt⟩ hc hs)
theorem lx_lload {i : Nat} {x : Int64} (d : decode mi.2.1 pc = .ok (.lload i, 2)) (hg : mj_get L i = some (.long x)) (k : LX TT cl X mi fr lo P PX kc ks (pc + 2) L (.long x :: S) M) : LX TT cl X mi fr lo P PX kc ks pc L S M := by
  intro p l e R s m args below meth c Qc XC free D sp A as0 F kq kx as L1 S1 H locs cells slots ls h0 hW hS hl hL hSt hc hs
  exact lv_lload F.1 F.2.1 d (mj_ld hl hL hg rfl) (k p l e R s m args below meth c Qc XC free D sp A as0 F kq kx as L1 _ H locs cells slots ls h0 hW hS hl hL ⟨rfl, hSt⟩ hc hs)
theorem lx_fload_n {n : Fin 4} {i : Nat} {x : UInt32} (d : decode mi.2.1 pc = .ok (.fload_n n, 1)) (hi : (n : Nat) = i) (hg : mj_get L i = some (.float x)) (k : LX TT cl X mi fr lo P PX kc ks (pc + 1) L (.float x :: S) M) : LX TT cl X mi fr lo P PX kc ks pc L S M := by
  intro p l e R s m args below meth c Qc XC free D sp A as0 F kq kx as L1 S1 H locs cells slots ls h0 hW hS hl hL hSt hc hs
  exact lv_fload_n F.1 F.2.1 d hi (mj_ld hl hL hg rfl) (k p l e R s m args below meth c Qc XC free D sp A as0 F kq kx as L1 _ H locs cells slots ls h0 hW hS hl hL ⟨rfl, hSt⟩ hc hs)
theorem lx_fload {i : Nat} {x : UInt32} (d : decode mi.2.1 pc = .ok (.fload i, 2)) (hg : mj_get L i = some (.float x)) (k : LX TT cl X mi fr lo P PX kc ks (pc + 2) L (.float x :: S) M) : LX TT cl X mi fr lo P PX kc ks pc L S M := by
  intro p l e R s m args below meth c Qc XC free D sp A as0 F kq kx as L1 S1 H locs cells slots ls h0 hW hS hl hL hSt hc hs
  exact lv_fload F.1 F.2.1 d (mj_ld hl hL hg rfl) (k p l e R s m args below meth c Qc XC free D sp A as0 F kq kx as L1 _ H locs cells slots ls h0 hW hS hl hL ⟨rfl, hSt⟩ hc hs)
theorem lx_dload_n {n : Fin 4} {i : Nat} {x : UInt64} (d : decode mi.2.1 pc = .ok (.dload_n n, 1)) (hi : (n : Nat) = i) (hg : mj_get L i = some (.double x)) (k : LX TT cl X mi fr lo P PX kc ks (pc + 1) L (.double x :: S) M) : LX TT cl X mi fr lo P PX kc ks pc L S M := by
  intro p l e R s m args below meth c Qc XC free D sp A as0 F kq kx as L1 S1 H locs cells slots ls h0 hW hS hl hL hSt hc hs
  exact lv_dload_n F.1 F.2.1 d hi (mj_ld hl hL hg rfl) (k p l e R s m args below meth c Qc XC free D sp A as0 F kq kx as L1 _ H locs cells slots ls h0 hW hS hl hL ⟨rfl, hSt⟩ hc hs)
theorem lx_dload {i : Nat} {x : UInt64} (d : decode mi.2.1 pc = .ok (.dload i, 2)) (hg : mj_get L i = some (.double x)) (k : LX TT cl X mi fr lo P PX kc ks (pc + 2) L (.double x :: S) M) : LX TT cl X mi fr lo P PX kc ks pc L S M := by
  intro p l e R s m args below meth c Qc XC free D sp A as0 F kq kx as L1 S1 H locs cells slots ls h0 hW hS hl hL hSt hc hs
  exact lv_dload F.1 F.2.1 d (mj_ld hl hL hg rfl) (k p l e R s m args below meth c Qc XC free D sp A as0 F kq kx as L1 _ H locs cells slots ls h0 hW hS hl hL ⟨rfl, hSt⟩ hc hs)
theorem lx_aload_n {n : Fin 4} {i : Nat} {v : Value} (d : decode mi.2.1 pc = .ok (.aload_n n, 1)) (hi : (n : Nat) = i) (hg : mj_get L i = some v) (hv : mj_isr v = true) (k : LX TT cl X mi fr lo P PX kc ks (pc + 1) L (v :: S) M) : LX TT cl X mi fr lo P PX kc ks pc L S M := by
  intro p l e R s m args below meth c Qc XC free D sp A as0 F kq kx as L1 S1 H locs cells slots ls h0 hW hS hl hL hSt hc hs
  obtain ⟨w, hw, hr⟩ := mj_ldr hl hL hg
  rcases mj_isr_spec hv hr with ⟨a, rfl⟩ | rfl
  · exact lv_aload_n F.1 F.2.1 d hi hw (k p l e R s m args below meth c Qc XC free D sp A as0 F kq kx as L1 _ H locs cells slots ls h0 hW hS hl hL ⟨hr, hSt⟩ hc hs)
  · exact lv_aload_nN F.1 F.2.1 d hi hw (k p l e R s m args below meth c Qc XC free D sp A as0 F kq kx as L1 _ H locs cells slots ls h0 hW hS hl hL ⟨hr, hSt⟩ hc hs)
theorem lx_aload {i : Nat} {v : Value} (d : decode mi.2.1 pc = .ok (.aload i, 2)) (hg : mj_get L i = some v) (hv : mj_isr v = true) (k : LX TT cl X mi fr lo P PX kc ks (pc + 2) L (v :: S) M) : LX TT cl X mi fr lo P PX kc ks pc L S M := by
  intro p l e R s m args below meth c Qc XC free D sp A as0 F kq kx as L1 S1 H locs cells slots ls h0 hW hS hl hL hSt hc hs
  obtain ⟨w, hw, hr⟩ := mj_ldr hl hL hg
  rcases mj_isr_spec hv hr with ⟨a, rfl⟩ | rfl
  · exact lv_aload F.1 F.2.1 d hw (k p l e R s m args below meth c Qc XC free D sp A as0 F kq kx as L1 _ H locs cells slots ls h0 hW hS hl hL ⟨hr, hSt⟩ hc hs)
  · exact lv_aloadN F.1 F.2.1 d hw (k p l e R s m args below meth c Qc XC free D sp A as0 F kq kx as L1 _ H locs cells slots ls h0 hW hS hl hL ⟨hr, hSt⟩ hc hs)
theorem lx_istore_n {n : Fin 4} {i : Nat} {x : Int32} {L2 : List (Nat × Value)} (d : decode mi.2.1 pc = .ok (.istore_n n, 1)) (hi : (n : Nat) = i) (hn : i < mi.2.2.1) (hp : mj_put1 i (.int x) L = L2) (k : LX TT cl X mi fr lo P PX kc ks (pc + 1) L2 S M) : LX TT cl X mi fr lo P PX kc ks pc L (.int x :: S) M := by
  intro p l e R s m args below meth c Qc XC free D sp A as0 F kq kx as L1 S1 H locs cells slots ls h0 hW hS hl hL hSt hc hs
  have h9 := mj_al_cons hSt
  clear hSt
  obtain ⟨_, S1, rfl, rfl, hSt⟩ := h9
  exact lv_istore_n F.1 F.2.1 d hi hl hn rfl (fun ls2 hl2 => (k p l e R s m args below meth c Qc XC free D sp A as0 F kq kx as _ _ H locs cells slots ls2 h0 hW hS hl2 (by subst hp; exact mj_put1_al (mj_pl_rf rfl) hL) hSt hc hs))
theorem lx_istore {i : Nat} {x : Int32} {L2 : List (Nat × Value)} (d : decode mi.2.1 pc = .ok (.istore i, 2)) (hn : i < mi.2.2.1) (hp : mj_put1 i (.int x) L = L2) (k : LX TT cl X mi fr lo P PX kc ks (pc + 2) L2 S M) : LX TT cl X mi fr lo P PX kc ks pc L (.int x :: S) M := by
  intro p l e R s m args below meth c Qc XC free D sp A as0 F kq kx as L1 S1 H locs cells slots ls h0 hW hS hl hL hSt hc hs
  have h9 := mj_al_cons hSt
  clear hSt
  obtain ⟨_, S1, rfl, rfl, hSt⟩ := h9
  exact lv_istore F.1 F.2.1 d hl hn rfl (fun ls2 hl2 => (k p l e R s m args below meth c Qc XC free D sp A as0 F kq kx as _ _ H locs cells slots ls2 h0 hW hS hl2 (by subst hp; exact mj_put1_al (mj_pl_rf rfl) hL) hSt hc hs))
theorem lx_fstore_n {n : Fin 4} {i : Nat} {x : UInt32} {L2 : List (Nat × Value)} (d : decode mi.2.1 pc = .ok (.fstore_n n, 1)) (hi : (n : Nat) = i) (hn : i < mi.2.2.1) (hp : mj_put1 i (.float x) L = L2) (k : LX TT cl X mi fr lo P PX kc ks (pc + 1) L2 S M) : LX TT cl X mi fr lo P PX kc ks pc L (.float x :: S) M := by
  intro p l e R s m args below meth c Qc XC free D sp A as0 F kq kx as L1 S1 H locs cells slots ls h0 hW hS hl hL hSt hc hs
  have h9 := mj_al_cons hSt
  clear hSt
  obtain ⟨_, S1, rfl, rfl, hSt⟩ := h9
  exact lv_fstore_n F.1 F.2.1 d hi hl hn rfl (fun ls2 hl2 => (k p l e R s m args below meth c Qc XC free D sp A as0 F kq kx as _ _ H locs cells slots ls2 h0 hW hS hl2 (by subst hp; exact mj_put1_al (mj_pl_rf rfl) hL) hSt hc hs))
theorem lx_fstore {i : Nat} {x : UInt32} {L2 : List (Nat × Value)} (d : decode mi.2.1 pc = .ok (.fstore i, 2)) (hn : i < mi.2.2.1) (hp : mj_put1 i (.float x) L = L2) (k : LX TT cl X mi fr lo P PX kc ks (pc + 2) L2 S M) : LX TT cl X mi fr lo P PX kc ks pc L (.float x :: S) M := by
  intro p l e R s m args below meth c Qc XC free D sp A as0 F kq kx as L1 S1 H locs cells slots ls h0 hW hS hl hL hSt hc hs
  have h9 := mj_al_cons hSt
  clear hSt
  obtain ⟨_, S1, rfl, rfl, hSt⟩ := h9
  exact lv_fstore F.1 F.2.1 d hl hn rfl (fun ls2 hl2 => (k p l e R s m args below meth c Qc XC free D sp A as0 F kq kx as _ _ H locs cells slots ls2 h0 hW hS hl2 (by subst hp; exact mj_put1_al (mj_pl_rf rfl) hL) hSt hc hs))
theorem lx_lstore_n {n : Fin 4} {i : Nat} {x : Int64} {L2 : List (Nat × Value)} (d : decode mi.2.1 pc = .ok (.lstore_n n, 1)) (hi : (n : Nat) = i) (hn : i + 1 < mi.2.2.1) (hp : mj_put2 i (.long x) L = L2) (k : LX TT cl X mi fr lo P PX kc ks (pc + 1) L2 S M) : LX TT cl X mi fr lo P PX kc ks pc L (.long x :: S) M := by
  intro p l e R s m args below meth c Qc XC free D sp A as0 F kq kx as L1 S1 H locs cells slots ls h0 hW hS hl hL hSt hc hs
  have h9 := mj_al_cons hSt
  clear hSt
  obtain ⟨_, S1, rfl, rfl, hSt⟩ := h9
  exact lv_lstore_n F.1 F.2.1 d hi hl hn rfl (fun ls2 hl2 => (k p l e R s m args below meth c Qc XC free D sp A as0 F kq kx as _ _ H locs cells slots ls2 h0 hW hS hl2 (by subst hp; exact mj_put2_al (mj_pl_rf rfl) hL) hSt hc hs))
theorem lx_lstore {i : Nat} {x : Int64} {L2 : List (Nat × Value)} (d : decode mi.2.1 pc = .ok (.lstore i, 2)) (hn : i + 1 < mi.2.2.1) (hp : mj_put2 i (.long x) L = L2) (k : LX TT cl X mi fr lo P PX kc ks (pc + 2) L2 S M) : LX TT cl X mi fr lo P PX kc ks pc L (.long x :: S) M := by
  intro p l e R s m args below meth c Qc XC free D sp A as0 F kq kx as L1 S1 H locs cells slots ls h0 hW hS hl hL hSt hc hs
  have h9 := mj_al_cons hSt
  clear hSt
  obtain ⟨_, S1, rfl, rfl, hSt⟩ := h9
  exact lv_lstore F.1 F.2.1 d hl hn rfl (fun ls2 hl2 => (k p l e R s m args below meth c Qc XC free D sp A as0 F kq kx as _ _ H locs cells slots ls2 h0 hW hS hl2 (by subst hp; exact mj_put2_al (mj_pl_rf rfl) hL) hSt hc hs))
theorem lx_dstore_n {n : Fin 4} {i : Nat} {x : UInt64} {L2 : List (Nat × Value)} (d : decode mi.2.1 pc = .ok (.dstore_n n, 1)) (hi : (n : Nat) = i) (hn : i + 1 < mi.2.2.1) (hp : mj_put2 i (.double x) L = L2) (k : LX TT cl X mi fr lo P PX kc ks (pc + 1) L2 S M) : LX TT cl X mi fr lo P PX kc ks pc L (.double x :: S) M := by
  intro p l e R s m args below meth c Qc XC free D sp A as0 F kq kx as L1 S1 H locs cells slots ls h0 hW hS hl hL hSt hc hs
  have h9 := mj_al_cons hSt
  clear hSt
  obtain ⟨_, S1, rfl, rfl, hSt⟩ := h9
  exact lv_dstore_n F.1 F.2.1 d hi hl hn rfl (fun ls2 hl2 => (k p l e R s m args below meth c Qc XC free D sp A as0 F kq kx as _ _ H locs cells slots ls2 h0 hW hS hl2 (by subst hp; exact mj_put2_al (mj_pl_rf rfl) hL) hSt hc hs))
theorem lx_dstore {i : Nat} {x : UInt64} {L2 : List (Nat × Value)} (d : decode mi.2.1 pc = .ok (.dstore i, 2)) (hn : i + 1 < mi.2.2.1) (hp : mj_put2 i (.double x) L = L2) (k : LX TT cl X mi fr lo P PX kc ks (pc + 2) L2 S M) : LX TT cl X mi fr lo P PX kc ks pc L (.double x :: S) M := by
  intro p l e R s m args below meth c Qc XC free D sp A as0 F kq kx as L1 S1 H locs cells slots ls h0 hW hS hl hL hSt hc hs
  have h9 := mj_al_cons hSt
  clear hSt
  obtain ⟨_, S1, rfl, rfl, hSt⟩ := h9
  exact lv_dstore F.1 F.2.1 d hl hn rfl (fun ls2 hl2 => (k p l e R s m args below meth c Qc XC free D sp A as0 F kq kx as _ _ H locs cells slots ls2 h0 hW hS hl2 (by subst hp; exact mj_put2_al (mj_pl_rf rfl) hL) hSt hc hs))
theorem lx_astore_n {n : Fin 4} {i : Nat} {v : Value} {L2 : List (Nat × Value)} (d : decode mi.2.1 pc = .ok (.astore_n n, 1)) (hi : (n : Nat) = i) (hn : i < mi.2.2.1) (hv : mj_isr v = true) (hp : mj_put1 i v L = L2) (k : LX TT cl X mi fr lo P PX kc ks (pc + 1) L2 S M) : LX TT cl X mi fr lo P PX kc ks pc L (v :: S) M := by
  intro p l e R s m args below meth c Qc XC free D sp A as0 F kq kx as L1 S1 H locs cells slots ls h0 hW hS hl hL hSt hc hs
  have h9 := mj_al_cons hSt
  clear hSt
  obtain ⟨w, S1, rfl, wr, hSt⟩ := h9
  have hwr := wr
  rcases mj_isr_spec hv wr with ⟨a, rfl⟩ | rfl
  · exact lv_astore_n F.1 F.2.1 d hi hl hn rfl (fun ls2 hl2 => (k p l e R s m args below meth c Qc XC free D sp A as0 F kq kx as _ _ H locs cells slots ls2 h0 hW hS hl2 (by subst hp; exact mj_put1_al hwr hL) hSt hc hs))
  · exact lv_astore_nN F.1 F.2.1 d hi hl hn rfl (fun ls2 hl2 => (k p l e R s m args below meth c Qc XC free D sp A as0 F kq kx as _ _ H locs cells slots ls2 h0 hW hS hl2 (by subst hp; exact mj_put1_al hwr hL) hSt hc hs))
theorem lx_astore {i : Nat} {v : Value} {L2 : List (Nat × Value)} (d : decode mi.2.1 pc = .ok (.astore i, 2)) (hn : i < mi.2.2.1) (hv : mj_isr v = true) (hp : mj_put1 i v L = L2) (k : LX TT cl X mi fr lo P PX kc ks (pc + 2) L2 S M) : LX TT cl X mi fr lo P PX kc ks pc L (v :: S) M := by
  intro p l e R s m args below meth c Qc XC free D sp A as0 F kq kx as L1 S1 H locs cells slots ls h0 hW hS hl hL hSt hc hs
  have h9 := mj_al_cons hSt
  clear hSt
  obtain ⟨w, S1, rfl, wr, hSt⟩ := h9
  have hwr := wr
  rcases mj_isr_spec hv wr with ⟨a, rfl⟩ | rfl
  · exact lv_astore F.1 F.2.1 d hl hn rfl (fun ls2 hl2 => (k p l e R s m args below meth c Qc XC free D sp A as0 F kq kx as _ _ H locs cells slots ls2 h0 hW hS hl2 (by subst hp; exact mj_put1_al hwr hL) hSt hc hs))
  · exact lv_astoreN F.1 F.2.1 d hl hn rfl (fun ls2 hl2 => (k p l e R s m args below meth c Qc XC free D sp A as0 F kq kx as _ _ H locs cells slots ls2 h0 hW hS hl2 (by subst hp; exact mj_put1_al hwr hL) hSt hc hs))
theorem lx_iinc {i : Nat} {n : Int} {x v : Int32} {L2 : List (Nat × Value)} (d : decode mi.2.1 pc = .ok (.iinc i n, 3)) (hg : mj_get L i = some (.int x)) (hv : x + Int32.ofInt n = v) (hn : i < mi.2.2.1) (hp : mj_put1 i (.int v) L = L2) (k : LX TT cl X mi fr lo P PX kc ks (pc + 3) L2 S M) : LX TT cl X mi fr lo P PX kc ks pc L S M := by
  intro p l e R s m args below meth c Qc XC free D sp A as0 F kq kx as L1 S1 H locs cells slots ls h0 hW hS hl hL hSt hc hs
  obtain ⟨j, hj⟩ := mj_ldk hL hg
  obtain ⟨w, hw, hr⟩ := hj
  rw [show w = Value.int x from hr] at hw
  exact lv_iinc F.1 F.2.1 d hl hw hv hn rfl (fun ls2 hl2 => (k p l e R s m args below meth c Qc XC free D sp A as0 F kq kx as _ _ H locs cells slots ls2 h0 hW hS hl2 (by subst hp; exact mj_put1_al (mj_pl_rf rfl) hL) hSt hc hs))
theorem lx_iadd {x y : Int32} (d : decode mi.2.1 pc = .ok (.iadd, 1)) (k : LX TT cl X mi fr lo P PX kc ks (pc + 1) L (.int (x + y) :: S) M) : LX TT cl X mi fr lo P PX kc ks pc L (.int y :: .int x :: S) M := by
  intro p l e R s m args below meth c Qc XC free D sp A as0 F kq kx as L1 S1 H locs cells slots ls h0 hW hS hl hL hSt hc hs
  have h9 := mj_al_cons hSt
  clear hSt
  obtain ⟨_, S1, rfl, rfl, hSt⟩ := h9
  have h9 := mj_al_cons hSt
  clear hSt
  obtain ⟨_, S1, rfl, rfl, hSt⟩ := h9
  exact lv_iadd F.1 F.2.1 d (k p l e R s m args below meth c Qc XC free D sp A as0 F kq kx as L1 _ H locs cells slots ls h0 hW hS hl hL ⟨rfl, hSt⟩ hc hs)
theorem lx_isub {x y : Int32} (d : decode mi.2.1 pc = .ok (.isub, 1)) (k : LX TT cl X mi fr lo P PX kc ks (pc + 1) L (.int (x - y) :: S) M) : LX TT cl X mi fr lo P PX kc ks pc L (.int y :: .int x :: S) M := by
  intro p l e R s m args below meth c Qc XC free D sp A as0 F kq kx as L1 S1 H locs cells slots ls h0 hW hS hl hL hSt hc hs
  have h9 := mj_al_cons hSt
  clear hSt
  obtain ⟨_, S1, rfl, rfl, hSt⟩ := h9
  have h9 := mj_al_cons hSt
  clear hSt
  obtain ⟨_, S1, rfl, rfl, hSt⟩ := h9
  exact lv_isub F.1 F.2.1 d (k p l e R s m args below meth c Qc XC free D sp A as0 F kq kx as L1 _ H locs cells slots ls h0 hW hS hl hL ⟨rfl, hSt⟩ hc hs)
theorem lx_imul {x y : Int32} (d : decode mi.2.1 pc = .ok (.imul, 1)) (k : LX TT cl X mi fr lo P PX kc ks (pc + 1) L (.int (x * y) :: S) M) : LX TT cl X mi fr lo P PX kc ks pc L (.int y :: .int x :: S) M := by
  intro p l e R s m args below meth c Qc XC free D sp A as0 F kq kx as L1 S1 H locs cells slots ls h0 hW hS hl hL hSt hc hs
  have h9 := mj_al_cons hSt
  clear hSt
  obtain ⟨_, S1, rfl, rfl, hSt⟩ := h9
  have h9 := mj_al_cons hSt
  clear hSt
  obtain ⟨_, S1, rfl, rfl, hSt⟩ := h9
  exact lv_imul F.1 F.2.1 d (k p l e R s m args below meth c Qc XC free D sp A as0 F kq kx as L1 _ H locs cells slots ls h0 hW hS hl hL ⟨rfl, hSt⟩ hc hs)
theorem lx_iand {x y : Int32} (d : decode mi.2.1 pc = .ok (.iand, 1)) (k : LX TT cl X mi fr lo P PX kc ks (pc + 1) L (.int (x &&& y) :: S) M) : LX TT cl X mi fr lo P PX kc ks pc L (.int y :: .int x :: S) M := by
  intro p l e R s m args below meth c Qc XC free D sp A as0 F kq kx as L1 S1 H locs cells slots ls h0 hW hS hl hL hSt hc hs
  have h9 := mj_al_cons hSt
  clear hSt
  obtain ⟨_, S1, rfl, rfl, hSt⟩ := h9
  have h9 := mj_al_cons hSt
  clear hSt
  obtain ⟨_, S1, rfl, rfl, hSt⟩ := h9
  exact lv_iand F.1 F.2.1 d (k p l e R s m args below meth c Qc XC free D sp A as0 F kq kx as L1 _ H locs cells slots ls h0 hW hS hl hL ⟨rfl, hSt⟩ hc hs)
theorem lx_ior {x y : Int32} (d : decode mi.2.1 pc = .ok (.ior, 1)) (k : LX TT cl X mi fr lo P PX kc ks (pc + 1) L (.int (x ||| y) :: S) M) : LX TT cl X mi fr lo P PX kc ks pc L (.int y :: .int x :: S) M := by
  intro p l e R s m args below meth c Qc XC free D sp A as0 F kq kx as L1 S1 H locs cells slots ls h0 hW hS hl hL hSt hc hs
  have h9 := mj_al_cons hSt
  clear hSt
  obtain ⟨_, S1, rfl, rfl, hSt⟩ := h9
  have h9 := mj_al_cons hSt
  clear hSt
  obtain ⟨_, S1, rfl, rfl, hSt⟩ := h9
  exact lv_ior F.1 F.2.1 d (k p l e R s m args below meth c Qc XC free D sp A as0 F kq kx as L1 _ H locs cells slots ls h0 hW hS hl hL ⟨rfl, hSt⟩ hc hs)
theorem lx_ixor {x y : Int32} (d : decode mi.2.1 pc = .ok (.ixor, 1)) (k : LX TT cl X mi fr lo P PX kc ks (pc + 1) L (.int (x ^^^ y) :: S) M) : LX TT cl X mi fr lo P PX kc ks pc L (.int y :: .int x :: S) M := by
  intro p l e R s m args below meth c Qc XC free D sp A as0 F kq kx as L1 S1 H locs cells slots ls h0 hW hS hl hL hSt hc hs
  have h9 := mj_al_cons hSt
  clear hSt
  obtain ⟨_, S1, rfl, rfl, hSt⟩ := h9
  have h9 := mj_al_cons hSt
  clear hSt
  obtain ⟨_, S1, rfl, rfl, hSt⟩ := h9
  exact lv_ixor F.1 F.2.1 d (k p l e R s m args below meth c Qc XC free D sp A as0 F kq kx as L1 _ H locs cells slots ls h0 hW hS hl hL ⟨rfl, hSt⟩ hc hs)
theorem lx_ishl {x y : Int32} (d : decode mi.2.1 pc = .ok (.ishl, 1)) (k : LX TT cl X mi fr lo P PX kc ks (pc + 1) L (.int (x <<< (y &&& 31)) :: S) M) : LX TT cl X mi fr lo P PX kc ks pc L (.int y :: .int x :: S) M := by
  intro p l e R s m args below meth c Qc XC free D sp A as0 F kq kx as L1 S1 H locs cells slots ls h0 hW hS hl hL hSt hc hs
  have h9 := mj_al_cons hSt
  clear hSt
  obtain ⟨_, S1, rfl, rfl, hSt⟩ := h9
  have h9 := mj_al_cons hSt
  clear hSt
  obtain ⟨_, S1, rfl, rfl, hSt⟩ := h9
  exact lv_ishl F.1 F.2.1 d (k p l e R s m args below meth c Qc XC free D sp A as0 F kq kx as L1 _ H locs cells slots ls h0 hW hS hl hL ⟨rfl, hSt⟩ hc hs)
theorem lx_ishr {x y : Int32} (d : decode mi.2.1 pc = .ok (.ishr, 1)) (k : LX TT cl X mi fr lo P PX kc ks (pc + 1) L (.int (x >>> (y &&& 31)) :: S) M) : LX TT cl X mi fr lo P PX kc ks pc L (.int y :: .int x :: S) M := by
  intro p l e R s m args below meth c Qc XC free D sp A as0 F kq kx as L1 S1 H locs cells slots ls h0 hW hS hl hL hSt hc hs
  have h9 := mj_al_cons hSt
  clear hSt
  obtain ⟨_, S1, rfl, rfl, hSt⟩ := h9
  have h9 := mj_al_cons hSt
  clear hSt
  obtain ⟨_, S1, rfl, rfl, hSt⟩ := h9
  exact lv_ishr F.1 F.2.1 d (k p l e R s m args below meth c Qc XC free D sp A as0 F kq kx as L1 _ H locs cells slots ls h0 hW hS hl hL ⟨rfl, hSt⟩ hc hs)
theorem lx_ladd {x y : Int64} (d : decode mi.2.1 pc = .ok (.ladd, 1)) (k : LX TT cl X mi fr lo P PX kc ks (pc + 1) L (.long (x + y) :: S) M) : LX TT cl X mi fr lo P PX kc ks pc L (.long y :: .long x :: S) M := by
  intro p l e R s m args below meth c Qc XC free D sp A as0 F kq kx as L1 S1 H locs cells slots ls h0 hW hS hl hL hSt hc hs
  have h9 := mj_al_cons hSt
  clear hSt
  obtain ⟨_, S1, rfl, rfl, hSt⟩ := h9
  have h9 := mj_al_cons hSt
  clear hSt
  obtain ⟨_, S1, rfl, rfl, hSt⟩ := h9
  exact lv_ladd F.1 F.2.1 d (k p l e R s m args below meth c Qc XC free D sp A as0 F kq kx as L1 _ H locs cells slots ls h0 hW hS hl hL ⟨rfl, hSt⟩ hc hs)
theorem lx_lsub {x y : Int64} (d : decode mi.2.1 pc = .ok (.lsub, 1)) (k : LX TT cl X mi fr lo P PX kc ks (pc + 1) L (.long (x - y) :: S) M) : LX TT cl X mi fr lo P PX kc ks pc L (.long y :: .long x :: S) M := by
  intro p l e R s m args below meth c Qc XC free D sp A as0 F kq kx as L1 S1 H locs cells slots ls h0 hW hS hl hL hSt hc hs
  have h9 := mj_al_cons hSt
  clear hSt
  obtain ⟨_, S1, rfl, rfl, hSt⟩ := h9
  have h9 := mj_al_cons hSt
  clear hSt
  obtain ⟨_, S1, rfl, rfl, hSt⟩ := h9
  exact lv_lsub F.1 F.2.1 d (k p l e R s m args below meth c Qc XC free D sp A as0 F kq kx as L1 _ H locs cells slots ls h0 hW hS hl hL ⟨rfl, hSt⟩ hc hs)
theorem lx_lmul {x y : Int64} (d : decode mi.2.1 pc = .ok (.lmul, 1)) (k : LX TT cl X mi fr lo P PX kc ks (pc + 1) L (.long (x * y) :: S) M) : LX TT cl X mi fr lo P PX kc ks pc L (.long y :: .long x :: S) M := by
  intro p l e R s m args below meth c Qc XC free D sp A as0 F kq kx as L1 S1 H locs cells slots ls h0 hW hS hl hL hSt hc hs
  have h9 := mj_al_cons hSt
  clear hSt
  obtain ⟨_, S1, rfl, rfl, hSt⟩ := h9
  have h9 := mj_al_cons hSt
  clear hSt
  obtain ⟨_, S1, rfl, rfl, hSt⟩ := h9
  exact lv_lmul F.1 F.2.1 d (k p l e R s m args below meth c Qc XC free D sp A as0 F kq kx as L1 _ H locs cells slots ls h0 hW hS hl hL ⟨rfl, hSt⟩ hc hs)
theorem lx_land {x y : Int64} (d : decode mi.2.1 pc = .ok (.land, 1)) (k : LX TT cl X mi fr lo P PX kc ks (pc + 1) L (.long (x &&& y) :: S) M) : LX TT cl X mi fr lo P PX kc ks pc L (.long y :: .long x :: S) M := by
  intro p l e R s m args below meth c Qc XC free D sp A as0 F kq kx as L1 S1 H locs cells slots ls h0 hW hS hl hL hSt hc hs
  have h9 := mj_al_cons hSt
  clear hSt
  obtain ⟨_, S1, rfl, rfl, hSt⟩ := h9
  have h9 := mj_al_cons hSt
  clear hSt
  obtain ⟨_, S1, rfl, rfl, hSt⟩ := h9
  exact lv_land F.1 F.2.1 d (k p l e R s m args below meth c Qc XC free D sp A as0 F kq kx as L1 _ H locs cells slots ls h0 hW hS hl hL ⟨rfl, hSt⟩ hc hs)
theorem lx_lor {x y : Int64} (d : decode mi.2.1 pc = .ok (.lor, 1)) (k : LX TT cl X mi fr lo P PX kc ks (pc + 1) L (.long (x ||| y) :: S) M) : LX TT cl X mi fr lo P PX kc ks pc L (.long y :: .long x :: S) M := by
  intro p l e R s m args below meth c Qc XC free D sp A as0 F kq kx as L1 S1 H locs cells slots ls h0 hW hS hl hL hSt hc hs
  have h9 := mj_al_cons hSt
  clear hSt
  obtain ⟨_, S1, rfl, rfl, hSt⟩ := h9
  have h9 := mj_al_cons hSt
  clear hSt
  obtain ⟨_, S1, rfl, rfl, hSt⟩ := h9
  exact lv_lor F.1 F.2.1 d (k p l e R s m args below meth c Qc XC free D sp A as0 F kq kx as L1 _ H locs cells slots ls h0 hW hS hl hL ⟨rfl, hSt⟩ hc hs)
theorem lx_lxor {x y : Int64} (d : decode mi.2.1 pc = .ok (.lxor, 1)) (k : LX TT cl X mi fr lo P PX kc ks (pc + 1) L (.long (x ^^^ y) :: S) M) : LX TT cl X mi fr lo P PX kc ks pc L (.long y :: .long x :: S) M := by
  intro p l e R s m args below meth c Qc XC free D sp A as0 F kq kx as L1 S1 H locs cells slots ls h0 hW hS hl hL hSt hc hs
  have h9 := mj_al_cons hSt
  clear hSt
  obtain ⟨_, S1, rfl, rfl, hSt⟩ := h9
  have h9 := mj_al_cons hSt
  clear hSt
  obtain ⟨_, S1, rfl, rfl, hSt⟩ := h9
  exact lv_lxor F.1 F.2.1 d (k p l e R s m args below meth c Qc XC free D sp A as0 F kq kx as L1 _ H locs cells slots ls h0 hW hS hl hL ⟨rfl, hSt⟩ hc hs)
theorem lx_idiv {x y : Int32} (d : decode mi.2.1 pc = .ok (.idiv, 1)) (hne : ¬ y = 0) (k : LX TT cl X mi fr lo P PX kc ks (pc + 1) L (.int (x / y) :: S) M) : LX TT cl X mi fr lo P PX kc ks pc L (.int y :: .int x :: S) M := by
  intro p l e R s m args below meth c Qc XC free D sp A as0 F kq kx as L1 S1 H locs cells slots ls h0 hW hS hl hL hSt hc hs
  have h9 := mj_al_cons hSt
  clear hSt
  obtain ⟨_, S1, rfl, rfl, hSt⟩ := h9
  have h9 := mj_al_cons hSt
  clear hSt
  obtain ⟨_, S1, rfl, rfl, hSt⟩ := h9
  exact lv_idiv F.1 F.2.1 d hne (k p l e R s m args below meth c Qc XC free D sp A as0 F kq kx as L1 _ H locs cells slots ls h0 hW hS hl hL ⟨rfl, hSt⟩ hc hs)
theorem lx_irem {x y : Int32} (d : decode mi.2.1 pc = .ok (.irem, 1)) (hne : ¬ y = 0) (k : LX TT cl X mi fr lo P PX kc ks (pc + 1) L (.int (x - x / y * y) :: S) M) : LX TT cl X mi fr lo P PX kc ks pc L (.int y :: .int x :: S) M := by
  intro p l e R s m args below meth c Qc XC free D sp A as0 F kq kx as L1 S1 H locs cells slots ls h0 hW hS hl hL hSt hc hs
  have h9 := mj_al_cons hSt
  clear hSt
  obtain ⟨_, S1, rfl, rfl, hSt⟩ := h9
  have h9 := mj_al_cons hSt
  clear hSt
  obtain ⟨_, S1, rfl, rfl, hSt⟩ := h9
  exact lv_irem F.1 F.2.1 d hne (k p l e R s m args below meth c Qc XC free D sp A as0 F kq kx as L1 _ H locs cells slots ls h0 hW hS hl hL ⟨rfl, hSt⟩ hc hs)
theorem lx_ineg {x : Int32} (d : decode mi.2.1 pc = .ok (.ineg, 1)) (k : LX TT cl X mi fr lo P PX kc ks (pc + 1) L (.int (-x) :: S) M) : LX TT cl X mi fr lo P PX kc ks pc L (.int x :: S) M := by
  intro p l e R s m args below meth c Qc XC free D sp A as0 F kq kx as L1 S1 H locs cells slots ls h0 hW hS hl hL hSt hc hs
  have h9 := mj_al_cons hSt
  clear hSt
  obtain ⟨_, S1, rfl, rfl, hSt⟩ := h9
  exact lv_ineg F.1 F.2.1 d (k p l e R s m args below meth c Qc XC free D sp A as0 F kq kx as L1 _ H locs cells slots ls h0 hW hS hl hL ⟨rfl, hSt⟩ hc hs)
theorem lx_lneg {x : Int64} (d : decode mi.2.1 pc = .ok (.lneg, 1)) (k : LX TT cl X mi fr lo P PX kc ks (pc + 1) L (.long (-x) :: S) M) : LX TT cl X mi fr lo P PX kc ks pc L (.long x :: S) M := by
  intro p l e R s m args below meth c Qc XC free D sp A as0 F kq kx as L1 S1 H locs cells slots ls h0 hW hS hl hL hSt hc hs
  have h9 := mj_al_cons hSt
  clear hSt
  obtain ⟨_, S1, rfl, rfl, hSt⟩ := h9
  exact lv_lneg F.1 F.2.1 d (k p l e R s m args below meth c Qc XC free D sp A as0 F kq kx as L1 _ H locs cells slots ls h0 hW hS hl hL ⟨rfl, hSt⟩ hc hs)
theorem lx_lcmp {x y : Int64} (d : decode mi.2.1 pc = .ok (.lcmp, 1)) (k : LX TT cl X mi fr lo P PX kc ks (pc + 1) L (.int (lg_cmp x y) :: S) M) : LX TT cl X mi fr lo P PX kc ks pc L (.long y :: .long x :: S) M := by
  intro p l e R s m args below meth c Qc XC free D sp A as0 F kq kx as L1 S1 H locs cells slots ls h0 hW hS hl hL hSt hc hs
  have h9 := mj_al_cons hSt
  clear hSt
  obtain ⟨_, S1, rfl, rfl, hSt⟩ := h9
  have h9 := mj_al_cons hSt
  clear hSt
  obtain ⟨_, S1, rfl, rfl, hSt⟩ := h9
  exact W.lcmp F.1 F.2.1 d (k p l e R s m args below meth c Qc XC free D sp A as0 F kq kx as L1 _ H locs cells slots ls h0 hW hS hl hL ⟨rfl, hSt⟩ hc hs)
theorem lx_i2l {x : Int32} (d : decode mi.2.1 pc = .ok (.i2l, 1)) (k : LX TT cl X mi fr lo P PX kc ks (pc + 1) L (.long (x.toInt64) :: S) M) : LX TT cl X mi fr lo P PX kc ks pc L (.int x :: S) M := by
  intro p l e R s m args below meth c Qc XC free D sp A as0 F kq kx as L1 S1 H locs cells slots ls h0 hW hS hl hL hSt hc hs
  have h9 := mj_al_cons hSt
  clear hSt
  obtain ⟨_, S1, rfl, rfl, hSt⟩ := h9
  exact lv_i2l F.1 F.2.1 d rfl (k p l e R s m args below meth c Qc XC free D sp A as0 F kq kx as L1 _ H locs cells slots ls h0 hW hS hl hL ⟨rfl, hSt⟩ hc hs)
theorem lx_l2i {x : Int64} (d : decode mi.2.1 pc = .ok (.l2i, 1)) (k : LX TT cl X mi fr lo P PX kc ks (pc + 1) L (.int (x.toInt32) :: S) M) : LX TT cl X mi fr lo P PX kc ks pc L (.long x :: S) M := by
  intro p l e R s m args below meth c Qc XC free D sp A as0 F kq kx as L1 S1 H locs cells slots ls h0 hW hS hl hL hSt hc hs
  have h9 := mj_al_cons hSt
  clear hSt
  obtain ⟨_, S1, rfl, rfl, hSt⟩ := h9
  exact lv_l2i F.1 F.2.1 d rfl (k p l e R s m args below meth c Qc XC free D sp A as0 F kq kx as L1 _ H locs cells slots ls h0 hW hS hl hL ⟨rfl, hSt⟩ hc hs)
theorem lx_i2b {x : Int32} (d : decode mi.2.1 pc = .ok (.i2b, 1)) (k : LX TT cl X mi fr lo P PX kc ks (pc + 1) L (.int (x.toInt8.toInt32) :: S) M) : LX TT cl X mi fr lo P PX kc ks pc L (.int x :: S) M := by
  intro p l e R s m args below meth c Qc XC free D sp A as0 F kq kx as L1 S1 H locs cells slots ls h0 hW hS hl hL hSt hc hs
  have h9 := mj_al_cons hSt
  clear hSt
  obtain ⟨_, S1, rfl, rfl, hSt⟩ := h9
  exact lv_i2b F.1 F.2.1 d rfl (k p l e R s m args below meth c Qc XC free D sp A as0 F kq kx as L1 _ H locs cells slots ls h0 hW hS hl hL ⟨rfl, hSt⟩ hc hs)
theorem lx_i2c {x : Int32} (d : decode mi.2.1 pc = .ok (.i2c, 1)) (k : LX TT cl X mi fr lo P PX kc ks (pc + 1) L (.int ((x.toUInt32 % 65536).toInt32) :: S) M) : LX TT cl X mi fr lo P PX kc ks pc L (.int x :: S) M := by
  intro p l e R s m args below meth c Qc XC free D sp A as0 F kq kx as L1 S1 H locs cells slots ls h0 hW hS hl hL hSt hc hs
  have h9 := mj_al_cons hSt
  clear hSt
  obtain ⟨_, S1, rfl, rfl, hSt⟩ := h9
  exact lv_i2c F.1 F.2.1 d rfl (k p l e R s m args below meth c Qc XC free D sp A as0 F kq kx as L1 _ H locs cells slots ls h0 hW hS hl hL ⟨rfl, hSt⟩ hc hs)
theorem lx_iushr {x y : Int32} (d : decode mi.2.1 pc = .ok (.iushr, 1)) (k : LX TT cl X mi fr lo P PX kc ks (pc + 1) L (.int ((x.toUInt32 >>> (y.toUInt32 &&& Int32.toUInt32 31)).toInt32) :: S) M) : LX TT cl X mi fr lo P PX kc ks pc L (.int y :: .int x :: S) M := by
  intro p l e R s m args below meth c Qc XC free D sp A as0 F kq kx as L1 S1 H locs cells slots ls h0 hW hS hl hL hSt hc hs
  have h9 := mj_al_cons hSt
  clear hSt
  obtain ⟨_, S1, rfl, rfl, hSt⟩ := h9
  have h9 := mj_al_cons hSt
  clear hSt
  obtain ⟨_, S1, rfl, rfl, hSt⟩ := h9
  exact lv_iushr F.1 F.2.1 d rfl (k p l e R s m args below meth c Qc XC free D sp A as0 F kq kx as L1 _ H locs cells slots ls h0 hW hS hl hL ⟨rfl, hSt⟩ hc hs)
theorem lx_lushr {x : Int64} {y : Int32} (d : decode mi.2.1 pc = .ok (.lushr, 1)) (k : LX TT cl X mi fr lo P PX kc ks (pc + 1) L (.long ((x.toUInt64 >>> (y.toInt64.toUInt64 &&& Int64.toUInt64 63)).toInt64) :: S) M) : LX TT cl X mi fr lo P PX kc ks pc L (.int y :: .long x :: S) M := by
  intro p l e R s m args below meth c Qc XC free D sp A as0 F kq kx as L1 S1 H locs cells slots ls h0 hW hS hl hL hSt hc hs
  have h9 := mj_al_cons hSt
  clear hSt
  obtain ⟨_, S1, rfl, rfl, hSt⟩ := h9
  have h9 := mj_al_cons hSt
  clear hSt
  obtain ⟨_, S1, rfl, rfl, hSt⟩ := h9
  exact lv_lushr F.1 F.2.1 d rfl (k p l e R s m args below meth c Qc XC free D sp A as0 F kq kx as L1 _ H locs cells slots ls h0 hW hS hl hL ⟨rfl, hSt⟩ hc hs)
theorem lx_lshl {x : Int64} {y : Int32} (d : decode mi.2.1 pc = .ok (.lshl, 1)) (k : LX TT cl X mi fr lo P PX kc ks (pc + 1) L (.long (x <<< (y.toInt64 &&& 63)) :: S) M) : LX TT cl X mi fr lo P PX kc ks pc L (.int y :: .long x :: S) M := by
  intro p l e R s m args below meth c Qc XC free D sp A as0 F kq kx as L1 S1 H locs cells slots ls h0 hW hS hl hL hSt hc hs
  have h9 := mj_al_cons hSt
  clear hSt
  obtain ⟨_, S1, rfl, rfl, hSt⟩ := h9
  have h9 := mj_al_cons hSt
  clear hSt
  obtain ⟨_, S1, rfl, rfl, hSt⟩ := h9
  exact lv_lshl F.1 F.2.1 d rfl (k p l e R s m args below meth c Qc XC free D sp A as0 F kq kx as L1 _ H locs cells slots ls h0 hW hS hl hL ⟨rfl, hSt⟩ hc hs)
theorem lx_lshr {x : Int64} {y : Int32} (d : decode mi.2.1 pc = .ok (.lshr, 1)) (k : LX TT cl X mi fr lo P PX kc ks (pc + 1) L (.long (x >>> (y.toInt64 &&& 63)) :: S) M) : LX TT cl X mi fr lo P PX kc ks pc L (.int y :: .long x :: S) M := by
  intro p l e R s m args below meth c Qc XC free D sp A as0 F kq kx as L1 S1 H locs cells slots ls h0 hW hS hl hL hSt hc hs
  have h9 := mj_al_cons hSt
  clear hSt
  obtain ⟨_, S1, rfl, rfl, hSt⟩ := h9
  have h9 := mj_al_cons hSt
  clear hSt
  obtain ⟨_, S1, rfl, rfl, hSt⟩ := h9
  exact lv_lshr F.1 F.2.1 d rfl (k p l e R s m args below meth c Qc XC free D sp A as0 F kq kx as L1 _ H locs cells slots ls h0 hW hS hl hL ⟨rfl, hSt⟩ hc hs)
theorem lx_dup {v : Value} (d : decode mi.2.1 pc = .ok (.dup, 1)) (hv : v.category = 1) (k : LX TT cl X mi fr lo P PX kc ks (pc + 1) L (v :: v :: S) M) : LX TT cl X mi fr lo P PX kc ks pc L (v :: S) M := by
  intro p l e R s m args below meth c Qc XC free D sp A as0 F kq kx as L1 S1 H locs cells slots ls h0 hW hS hl hL hSt hc hs
  have h9 := mj_al_cons hSt
  clear hSt
  obtain ⟨w, S1, rfl, wr, hSt⟩ := h9
  exact lv_dup F.1 F.2.1 d ((mj_vr_cat wr).trans hv) (k p l e R s m args below meth c Qc XC free D sp A as0 F kq kx as L1 _ H locs cells slots ls h0 hW hS hl hL ⟨wr, wr, hSt⟩ hc hs)
theorem lx_pop {v : Value} (d : decode mi.2.1 pc = .ok (.pop, 1)) (hv : v.category = 1) (k : LX TT cl X mi fr lo P PX kc ks (pc + 1) L S M) : LX TT cl X mi fr lo P PX kc ks pc L (v :: S) M := by
  intro p l e R s m args below meth c Qc XC free D sp A as0 F kq kx as L1 S1 H locs cells slots ls h0 hW hS hl hL hSt hc hs
  have h9 := mj_al_cons hSt
  clear hSt
  obtain ⟨w, S1, rfl, wr, hSt⟩ := h9
  exact lv_pop F.1 F.2.1 d ((mj_vr_cat wr).trans hv) (k p l e R s m args below meth c Qc XC free D sp A as0 F kq kx as L1 _ H locs cells slots ls h0 hW hS hl hL hSt hc hs)
theorem lx_dup2 {v u : Value} (d : decode mi.2.1 pc = .ok (.dup2, 1)) (hv : v.category = 1) (hu : u.category = 1) (k : LX TT cl X mi fr lo P PX kc ks (pc + 1) L (v :: u :: v :: u :: S) M) : LX TT cl X mi fr lo P PX kc ks pc L (v :: u :: S) M := by
  intro p l e R s m args below meth c Qc XC free D sp A as0 F kq kx as L1 S1 H locs cells slots ls h0 hW hS hl hL hSt hc hs
  have h9 := mj_al_cons hSt
  clear hSt
  obtain ⟨w, S1, rfl, wr, hSt⟩ := h9
  have h9 := mj_al_cons hSt
  clear hSt
  obtain ⟨z, S1, rfl, zr, hSt⟩ := h9
  exact lv_dup2_11 F.1 F.2.1 d ((mj_vr_cat wr).trans hv) ((mj_vr_cat zr).trans hu) (k p l e R s m args below meth c Qc XC free D sp A as0 F kq kx as L1 _ H locs cells slots ls h0 hW hS hl hL ⟨wr, zr, wr, zr, hSt⟩ hc hs)
theorem lx_dup_x1 {v u : Value} (d : decode mi.2.1 pc = .ok (.dup_x1, 1)) (hv : v.category = 1) (hu : u.category = 1) (k : LX TT cl X mi fr lo P PX kc ks (pc + 1) L (v :: u :: v :: S) M) : LX TT cl X mi fr lo P PX kc ks pc L (v :: u :: S) M := by
  intro p l e R s m args below meth c Qc XC free D sp A as0 F kq kx as L1 S1 H locs cells slots ls h0 hW hS hl hL hSt hc hs
  have h9 := mj_al_cons hSt
  clear hSt
  obtain ⟨w, S1, rfl, wr, hSt⟩ := h9
  have h9 := mj_al_cons hSt
  clear hSt
  obtain ⟨z, S1, rfl, zr, hSt⟩ := h9
  exact lv_dup_x1 F.1 F.2.1 d ((mj_vr_cat wr).trans hv) ((mj_vr_cat zr).trans hu) (k p l e R s m args below meth c Qc XC free D sp A as0 F kq kx as L1 _ H locs cells slots ls h0 hW hS hl hL ⟨wr, zr, wr, hSt⟩ hc hs)
theorem lx_if_eq {x : Int32} {off : Int} {tgt : Nat} (d : decode mi.2.1 pc = .ok (.ifCond .eq off, 3)) (ht : (pc : Int) + off = (tgt : Int)) (kt : x = 0 → LX TT cl X mi fr lo P PX kc ks tgt L S M) (kf : ¬ (x = 0) → LX TT cl X mi fr lo P PX kc ks (pc + 3) L S M) : LX TT cl X mi fr lo P PX kc ks pc L (.int x :: S) M := by
  intro p l e R s m args below meth c Qc XC free D sp A as0 F kq kx as L1 S1 H locs cells slots ls h0 hW hS hl hL hSt hc hs
  have h9 := mj_al_cons hSt
  clear hSt
  obtain ⟨_, S1, rfl, rfl, hSt⟩ := h9
  exact lv_if_eq F.1 F.2.1 d ht (fun q => ((kt q) p l e R s m args below meth c Qc XC free D sp A as0 F kq kx as L1 _ H locs cells slots ls h0 hW hS hl hL hSt hc hs)) (fun q => ((kf q) p l e R s m args below meth c Qc XC free D sp A as0 F kq kx as L1 _ H locs cells slots ls h0 hW hS hl hL hSt hc hs))
theorem lx_if_ne {x : Int32} {off : Int} {tgt : Nat} (d : decode mi.2.1 pc = .ok (.ifCond .ne off, 3)) (ht : (pc : Int) + off = (tgt : Int)) (kt : ¬ x = 0 → LX TT cl X mi fr lo P PX kc ks tgt L S M) (kf : x = 0 → LX TT cl X mi fr lo P PX kc ks (pc + 3) L S M) : LX TT cl X mi fr lo P PX kc ks pc L (.int x :: S) M := by
  intro p l e R s m args below meth c Qc XC free D sp A as0 F kq kx as L1 S1 H locs cells slots ls h0 hW hS hl hL hSt hc hs
  have h9 := mj_al_cons hSt
  clear hSt
  obtain ⟨_, S1, rfl, rfl, hSt⟩ := h9
  exact lv_if_ne F.1 F.2.1 d ht (fun q => ((kt q) p l e R s m args below meth c Qc XC free D sp A as0 F kq kx as L1 _ H locs cells slots ls h0 hW hS hl hL hSt hc hs)) (fun q => ((kf q) p l e R s m args below meth c Qc XC free D sp A as0 F kq kx as L1 _ H locs cells slots ls h0 hW hS hl hL hSt hc hs))
theorem lx_if_lt {x : Int32} {off : Int} {tgt : Nat} (d : decode mi.2.1 pc = .ok (.ifCond .lt off, 3)) (ht : (pc : Int) + off = (tgt : Int)) (kt : x < 0 → LX TT cl X mi fr lo P PX kc ks tgt L S M) (kf : ¬ (x < 0) → LX TT cl X mi fr lo P PX kc ks (pc + 3) L S M) : LX TT cl X mi fr lo P PX kc ks pc L (.int x :: S) M := by
  intro p l e R s m args below meth c Qc XC free D sp A as0 F kq kx as L1 S1 H locs cells slots ls h0 hW hS hl hL hSt hc hs
  have h9 := mj_al_cons hSt
  clear hSt
  obtain ⟨_, S1, rfl, rfl, hSt⟩ := h9
  exact lv_if_lt F.1 F.2.1 d ht (fun q => ((kt q) p l e R s m args below meth c Qc XC free D sp A as0 F kq kx as L1 _ H locs cells slots ls h0 hW hS hl hL hSt hc hs)) (fun q => ((kf q) p l e R s m args below meth c Qc XC free D sp A as0 F kq kx as L1 _ H locs cells slots ls h0 hW hS hl hL hSt hc hs))
theorem lx_if_ge {x : Int32} {off : Int} {tgt : Nat} (d : decode mi.2.1 pc = .ok (.ifCond .ge off, 3)) (ht : (pc : Int) + off = (tgt : Int)) (kt : 0 ≤ x → LX TT cl X mi fr lo P PX kc ks tgt L S M) (kf : ¬ (0 ≤ x) → LX TT cl X mi fr lo P PX kc ks (pc + 3) L S M) : LX TT cl X mi fr lo P PX kc ks pc L (.int x :: S) M := by
  intro p l e R s m args below meth c Qc XC free D sp A as0 F kq kx as L1 S1 H locs cells slots ls h0 hW hS hl hL hSt hc hs
  have h9 := mj_al_cons hSt
  clear hSt
  obtain ⟨_, S1, rfl, rfl, hSt⟩ := h9
  exact lv_if_ge F.1 F.2.1 d ht (fun q => ((kt q) p l e R s m args below meth c Qc XC free D sp A as0 F kq kx as L1 _ H locs cells slots ls h0 hW hS hl hL hSt hc hs)) (fun q => ((kf q) p l e R s m args below meth c Qc XC free D sp A as0 F kq kx as L1 _ H locs cells slots ls h0 hW hS hl hL hSt hc hs))
theorem lx_if_gt {x : Int32} {off : Int} {tgt : Nat} (d : decode mi.2.1 pc = .ok (.ifCond .gt off, 3)) (ht : (pc : Int) + off = (tgt : Int)) (kt : 0 < x → LX TT cl X mi fr lo P PX kc ks tgt L S M) (kf : ¬ (0 < x) → LX TT cl X mi fr lo P PX kc ks (pc + 3) L S M) : LX TT cl X mi fr lo P PX kc ks pc L (.int x :: S) M := by
  intro p l e R s m args below meth c Qc XC free D sp A as0 F kq kx as L1 S1 H locs cells slots ls h0 hW hS hl hL hSt hc hs
  have h9 := mj_al_cons hSt
  clear hSt
  obtain ⟨_, S1, rfl, rfl, hSt⟩ := h9
  exact lv_if_gt F.1 F.2.1 d ht (fun q => ((kt q) p l e R s m args below meth c Qc XC free D sp A as0 F kq kx as L1 _ H locs cells slots ls h0 hW hS hl hL hSt hc hs)) (fun q => ((kf q) p l e R s m args below meth c Qc XC free D sp A as0 F kq kx as L1 _ H locs cells slots ls h0 hW hS hl hL hSt hc hs))
theorem lx_if_le {x : Int32} {off : Int} {tgt : Nat} (d : decode mi.2.1 pc = .ok (.ifCond .le off, 3)) (ht : (pc : Int) + off = (tgt : Int)) (kt : x ≤ 0 → LX TT cl X mi fr lo P PX kc ks tgt L S M) (kf : ¬ (x ≤ 0) → LX TT cl X mi fr lo P PX kc ks (pc + 3) L S M) : LX TT cl X mi fr lo P PX kc ks pc L (.int x :: S) M := by
  intro p l e R s m args below meth c Qc XC free D sp A as0 F kq kx as L1 S1 H locs cells slots ls h0 hW hS hl hL hSt hc hs
  have h9 := mj_al_cons hSt
  clear hSt
  obtain ⟨_, S1, rfl, rfl, hSt⟩ := h9
  exact lv_if_le F.1 F.2.1 d ht (fun q => ((kt q) p l e R s m args below meth c Qc XC free D sp A as0 F kq kx as L1 _ H locs cells slots ls h0 hW hS hl hL hSt hc hs)) (fun q => ((kf q) p l e R s m args below meth c Qc XC free D sp A as0 F kq kx as L1 _ H locs cells slots ls h0 hW hS hl hL hSt hc hs))
theorem lx_icmp_eq {x y : Int32} {off : Int} {tgt : Nat} (d : decode mi.2.1 pc = .ok (.if_icmp .eq off, 3)) (ht : (pc : Int) + off = (tgt : Int)) (kt : x = y → LX TT cl X mi fr lo P PX kc ks tgt L S M) (kf : ¬ (x = y) → LX TT cl X mi fr lo P PX kc ks (pc + 3) L S M) : LX TT cl X mi fr lo P PX kc ks pc L (.int y :: .int x :: S) M := by
  intro p l e R s m args below meth c Qc XC free D sp A as0 F kq kx as L1 S1 H locs cells slots ls h0 hW hS hl hL hSt hc hs
  have h9 := mj_al_cons hSt
  clear hSt
  obtain ⟨_, S1, rfl, rfl, hSt⟩ := h9
  have h9 := mj_al_cons hSt
  clear hSt
  obtain ⟨_, S1, rfl, rfl, hSt⟩ := h9
  exact lv_icmp_eq F.1 F.2.1 d ht (fun q => ((kt q) p l e R s m args below meth c Qc XC free D sp A as0 F kq kx as L1 _ H locs cells slots ls h0 hW hS hl hL hSt hc hs)) (fun q => ((kf q) p l e R s m args below meth c Qc XC free D sp A as0 F kq kx as L1 _ H locs cells slots ls h0 hW hS hl hL hSt hc hs))
theorem lx_icmp_ne {x y : Int32} {off : Int} {tgt : Nat} (d : decode mi.2.1 pc = .ok (.if_icmp .ne off, 3)) (ht : (pc : Int) + off = (tgt : Int)) (kt : ¬ x = y → LX TT cl X mi fr lo P PX kc ks tgt L S M) (kf : x = y → LX TT cl X mi fr lo P PX kc ks (pc + 3) L S M) : LX TT cl X mi fr lo P PX kc ks pc L (.int y :: .int x :: S) M := by
  intro p l e R s m args below meth c Qc XC free D sp A as0 F kq kx as L1 S1 H locs cells slots ls h0 hW hS hl hL hSt hc hs
  have h9 := mj_al_cons hSt
  clear hSt
  obtain ⟨_, S1, rfl, rfl, hSt⟩ := h9
  have h9 := mj_al_cons hSt
  clear hSt
  obtain ⟨_, S1, rfl, rfl, hSt⟩ := h9
  exact lv_icmp_ne F.1 F.2.1 d ht (fun q => ((kt q) p l e R s m args below meth c Qc XC free D sp A as0 F kq kx as L1 _ H locs cells slots ls h0 hW hS hl hL hSt hc hs)) (fun q => ((kf q) p l e R s m args below meth c Qc XC free D sp A as0 F kq kx as L1 _ H locs cells slots ls h0 hW hS hl hL hSt hc hs))
theorem lx_icmp_lt {x y : Int32} {off : Int} {tgt : Nat} (d : decode mi.2.1 pc = .ok (.if_icmp .lt off, 3)) (ht : (pc : Int) + off = (tgt : Int)) (kt : x < y → LX TT cl X mi fr lo P PX kc ks tgt L S M) (kf : ¬ (x < y) → LX TT cl X mi fr lo P PX kc ks (pc + 3) L S M) : LX TT cl X mi fr lo P PX kc ks pc L (.int y :: .int x :: S) M := by
  intro p l e R s m args below meth c Qc XC free D sp A as0 F kq kx as L1 S1 H locs cells slots ls h0 hW hS hl hL hSt hc hs
  have h9 := mj_al_cons hSt
  clear hSt
  obtain ⟨_, S1, rfl, rfl, hSt⟩ := h9
  have h9 := mj_al_cons hSt
  clear hSt
  obtain ⟨_, S1, rfl, rfl, hSt⟩ := h9
  exact lv_icmp_lt F.1 F.2.1 d ht (fun q => ((kt q) p l e R s m args below meth c Qc XC free D sp A as0 F kq kx as L1 _ H locs cells slots ls h0 hW hS hl hL hSt hc hs)) (fun q => ((kf q) p l e R s m args below meth c Qc XC free D sp A as0 F kq kx as L1 _ H locs cells slots ls h0 hW hS hl hL hSt hc hs))
theorem lx_icmp_ge {x y : Int32} {off : Int} {tgt : Nat} (d : decode mi.2.1 pc = .ok (.if_icmp .ge off, 3)) (ht : (pc : Int) + off = (tgt : Int)) (kt : y ≤ x → LX TT cl X mi fr lo P PX kc ks tgt L S M) (kf : ¬ (y ≤ x) → LX TT cl X mi fr lo P PX kc ks (pc + 3) L S M) : LX TT cl X mi fr lo P PX kc ks pc L (.int y :: .int x :: S) M := by
  intro p l e R s m args below meth c Qc XC free D sp A as0 F kq kx as L1 S1 H locs cells slots ls h0 hW hS hl hL hSt hc hs
  have h9 := mj_al_cons hSt
  clear hSt
  obtain ⟨_, S1, rfl, rfl, hSt⟩ := h9
  have h9 := mj_al_cons hSt
  clear hSt
  obtain ⟨_, S1, rfl, rfl, hSt⟩ := h9
  exact lv_icmp_ge F.1 F.2.1 d ht (fun q => ((kt q) p l e R s m args below meth c Qc XC free D sp A as0 F kq kx as L1 _ H locs cells slots ls h0 hW hS hl hL hSt hc hs)) (fun q => ((kf q) p l e R s m args below meth c Qc XC free D sp A as0 F kq kx as L1 _ H locs cells slots ls h0 hW hS hl hL hSt hc hs))
theorem lx_icmp_gt {x y : Int32} {off : Int} {tgt : Nat} (d : decode mi.2.1 pc = .ok (.if_icmp .gt off, 3)) (ht : (pc : Int) + off = (tgt : Int)) (kt : y < x → LX TT cl X mi fr lo P PX kc ks tgt L S M) (kf : ¬ (y < x) → LX TT cl X mi fr lo P PX kc ks (pc + 3) L S M) : LX TT cl X mi fr lo P PX kc ks pc L (.int y :: .int x :: S) M := by
  intro p l e R s m args below meth c Qc XC free D sp A as0 F kq kx as L1 S1 H locs cells slots ls h0 hW hS hl hL hSt hc hs
  have h9 := mj_al_cons hSt
  clear hSt
  obtain ⟨_, S1, rfl, rfl, hSt⟩ := h9
  have h9 := mj_al_cons hSt
  clear hSt
  obtain ⟨_, S1, rfl, rfl, hSt⟩ := h9
  exact lv_icmp_gt F.1 F.2.1 d ht (fun q => ((kt q) p l e R s m args below meth c Qc XC free D sp A as0 F kq kx as L1 _ H locs cells slots ls h0 hW hS hl hL hSt hc hs)) (fun q => ((kf q) p l e R s m args below meth c Qc XC free D sp A as0 F kq kx as L1 _ H locs cells slots ls h0 hW hS hl hL hSt hc hs))
theorem lx_icmp_le {x y : Int32} {off : Int} {tgt : Nat} (d : decode mi.2.1 pc = .ok (.if_icmp .le off, 3)) (ht : (pc : Int) + off = (tgt : Int)) (kt : x ≤ y → LX TT cl X mi fr lo P PX kc ks tgt L S M) (kf : ¬ (x ≤ y) → LX TT cl X mi fr lo P PX kc ks (pc + 3) L S M) : LX TT cl X mi fr lo P PX kc ks pc L (.int y :: .int x :: S) M := by
  intro p l e R s m args below meth c Qc XC free D sp A as0 F kq kx as L1 S1 H locs cells slots ls h0 hW hS hl hL hSt hc hs
  have h9 := mj_al_cons hSt
  clear hSt
  obtain ⟨_, S1, rfl, rfl, hSt⟩ := h9
  have h9 := mj_al_cons hSt
  clear hSt
  obtain ⟨_, S1, rfl, rfl, hSt⟩ := h9
  exact lv_icmp_le F.1 F.2.1 d ht (fun q => ((kt q) p l e R s m args below meth c Qc XC free D sp A as0 F kq kx as L1 _ H locs cells slots ls h0 hW hS hl hL hSt hc hs)) (fun q => ((kf q) p l e R s m args below meth c Qc XC free D sp A as0 F kq kx as L1 _ H locs cells slots ls h0 hW hS hl hL hSt hc hs))
theorem lx_goto {off : Int} {tgt : Nat} (d : decode mi.2.1 pc = .ok (.goto off, 3)) (ht : (pc : Int) + off = (tgt : Int)) (k : LX TT cl X mi fr lo P PX kc ks tgt L S M) : LX TT cl X mi fr lo P PX kc ks pc L S M := by
  intro p l e R s m args below meth c Qc XC free D sp A as0 F kq kx as L1 S1 H locs cells slots ls h0 hW hS hl hL hSt hc hs
  exact lv_goto F.1 F.2.1 d ht (k p l e R s m args below meth c Qc XC free D sp A as0 F kq kx as L1 _ H locs cells slots ls h0 hW hS hl hL hSt hc hs)
theorem lx_ifnull_r {v : Value} {off : Int} (d : decode mi.2.1 pc = .ok (.ifnull off, 3)) (hv : mj_isR v = true) (k : LX TT cl X mi fr lo P PX kc ks (pc + 3) L S M) : LX TT cl X mi fr lo P PX kc ks pc L (v :: S) M := by
  intro p l e R s m args below meth c Qc XC free D sp A as0 F kq kx as L1 S1 H locs cells slots ls h0 hW hS hl hL hSt hc hs
  have h9 := mj_al_cons hSt
  clear hSt
  obtain ⟨w, S1, rfl, wr, hSt⟩ := h9
  obtain ⟨a, rfl⟩ := mj_isR_spec hv wr
  exact lv_ifnull F.1 F.2.1 d (k p l e R s m args below meth c Qc XC free D sp A as0 F kq kx as L1 _ H locs cells slots ls h0 hW hS hl hL hSt hc hs)
theorem lx_ifnonnull_r {v : Value} {off : Int} {tgt : Nat} (d : decode mi.2.1 pc = .ok (.ifnonnull off, 3)) (ht : (pc : Int) + off = (tgt : Int)) (hv : mj_isR v = true) (k : LX TT cl X mi fr lo P PX kc ks tgt L S M) : LX TT cl X mi fr lo P PX kc ks pc L (v :: S) M := by
  intro p l e R s m args below meth c Qc XC free D sp A as0 F kq kx as L1 S1 H locs cells slots ls h0 hW hS hl hL hSt hc hs
  have h9 := mj_al_cons hSt
  clear hSt
  obtain ⟨w, S1, rfl, wr, hSt⟩ := h9
  obtain ⟨a, rfl⟩ := mj_isR_spec hv wr
  exact lv_ifnonnull F.1 F.2.1 d ht (k p l e R s m args below meth c Qc XC free D sp A as0 F kq kx as L1 _ H locs cells slots ls h0 hW hS hl hL hSt hc hs)
theorem lx_ifnull_n {off : Int} {tgt : Nat} (d : decode mi.2.1 pc = .ok (.ifnull off, 3)) (ht : (pc : Int) + off = (tgt : Int)) (k : LX TT cl X mi fr lo P PX kc ks tgt L S M) : LX TT cl X mi fr lo P PX kc ks pc L (.null :: S) M := by
  intro p l e R s m args below meth c Qc XC free D sp A as0 F kq kx as L1 S1 H locs cells slots ls h0 hW hS hl hL hSt hc hs
  have h9 := mj_al_cons hSt
  clear hSt
  obtain ⟨_, S1, rfl, rfl, hSt⟩ := h9
  exact lv_ifnullN F.1 F.2.1 d ht (k p l e R s m args below meth c Qc XC free D sp A as0 F kq kx as L1 _ H locs cells slots ls h0 hW hS hl hL hSt hc hs)
theorem lx_ifnonnull_n {off : Int} (d : decode mi.2.1 pc = .ok (.ifnonnull off, 3)) (k : LX TT cl X mi fr lo P PX kc ks (pc + 3) L S M) : LX TT cl X mi fr lo P PX kc ks pc L (.null :: S) M := by
  intro p l e R s m args below meth c Qc XC free D sp A as0 F kq kx as L1 S1 H locs cells slots ls h0 hW hS hl hL hSt hc hs
  have h9 := mj_al_cons hSt
  clear hSt
  obtain ⟨_, S1, rfl, rfl, hSt⟩ := h9
  exact lv_ifnonnullN F.1 F.2.1 d (k p l e R s m args below meth c Qc XC free D sp A as0 F kq kx as L1 _ H locs cells slots ls h0 hW hS hl hL hSt hc hs)
theorem lx_lookup {dflt : Int} {ps : Array (Int × Int)} {len : Nat} {x : Int32} {off : Int} {tgt : Nat} (d : decode mi.2.1 pc = .ok (.lookupswitch dflt ps, len)) (hp : (ps.toList.zip (ps.toList.drop 1)).all (fun (a, next) => a.1 < next.1) = true) (ho : Op.lookupswitch.offset ps.toList dflt x.toInt = off) (ht : (pc : Int) + off = (tgt : Int)) (k : LX TT cl X mi fr lo P PX kc ks tgt L S M) : LX TT cl X mi fr lo P PX kc ks pc L (.int x :: S) M := by
  intro p l e R s m args below meth c Qc XC free D sp A as0 F kq kx as L1 S1 H locs cells slots ls h0 hW hS hl hL hSt hc hs
  have h9 := mj_al_cons hSt
  clear hSt
  obtain ⟨_, S1, rfl, rfl, hSt⟩ := h9
  exact lv_lookup F.1 F.2.1 d hp ho ht (k p l e R s m args below meth c Qc XC free D sp A as0 F kq kx as L1 _ H locs cells slots ls h0 hW hS hl hL hSt hc hs)
theorem lx_tableIn {dflt lo9 hi9 : Int} {offs : Array Int} {len : Nat} {x : Int32} {off : Int} {tgt : Nat} (d : decode mi.2.1 pc = .ok (.tableswitch dflt lo9 hi9 offs, len)) (h1 : ¬ x.toInt < lo9) (h2 : ¬ hi9 < x.toInt) (ho : offs[(x.toInt - lo9).toNat]? = some off) (ht : (pc : Int) + off = (tgt : Int)) (k : LX TT cl X mi fr lo P PX kc ks tgt L S M) : LX TT cl X mi fr lo P PX kc ks pc L (.int x :: S) M := by
  intro p l e R s m args below meth c Qc XC free D sp A as0 F kq kx as L1 S1 H locs cells slots ls h0 hW hS hl hL hSt hc hs
  have h9 := mj_al_cons hSt
  clear hSt
  obtain ⟨_, S1, rfl, rfl, hSt⟩ := h9
  exact lv_tableIn F.1 F.2.1 d h1 h2 ho ht (k p l e R s m args below meth c Qc XC free D sp A as0 F kq kx as L1 _ H locs cells slots ls h0 hW hS hl hL hSt hc hs)
theorem lx_tableOut {dflt lo9 hi9 : Int} {offs : Array Int} {len : Nat} {x : Int32} {tgt : Nat} (d : decode mi.2.1 pc = .ok (.tableswitch dflt lo9 hi9 offs, len)) (h9 : x.toInt < lo9 ∨ hi9 < x.toInt) (ht : (pc : Int) + dflt = (tgt : Int)) (k : LX TT cl X mi fr lo P PX kc ks tgt L S M) : LX TT cl X mi fr lo P PX kc ks pc L (.int x :: S) M := by
  intro p l e R s m args below meth c Qc XC free D sp A as0 F kq kx as L1 S1 H locs cells slots ls h0 hW hS hl hL hSt hc hs
  have h9 := mj_al_cons hSt
  clear hSt
  obtain ⟨_, S1, rfl, rfl, hSt⟩ := h9
  exact lv_tableOut F.1 F.2.1 d h9 ht (k p l e R s m args below meth c Qc XC free D sp A as0 F kq kx as L1 _ H locs cells slots ls h0 hW hS hl hL hSt hc hs)
theorem lx_ireturn {v : Int32} {ty : FieldType} (d : decode mi.2.1 pc = .ok (.ireturn, 1)) (hr : mi.2.2.2.1 = some ty) (hn : narrow ty (.int v) = .int v) (h : P (some (.int v)) M) : LX TT cl X mi fr lo P PX kc ks pc L [.int v] M := by
  intro p l e R s m args below meth c Qc XC free D sp A as0 F kq kx as L1 S1 H locs cells slots ls h0 hW hS hl hL hSt hc hs
  have h9 := mj_al_cons hSt
  clear hSt
  obtain ⟨_, S1, rfl, rfl, hSt⟩ := h9
  rw [mj_al_nil hSt]
  refine W.widen (k := R.cells) (n := R.slots) (by omega) (by omega) (vx_ret ?_)
  exact W.zret F.1 F.2.1 (F.2.2.2.2.2.1.trans hr) hn (fun t ht hw => kq as M _ _ t h ⟨_, rfl, rfl⟩ hw (by rw [ht]; exact hW) (hS.F ht) h0) (fun q hq => F.2.2.2.2.2.2.2.2.2.2.2.2.2.1 _ (hS.2.2 q hq)) d F.2.2.2.2.2.2.1
theorem lx_lreturn {v : Int64} (d : decode mi.2.1 pc = .ok (.lreturn, 1)) (hr : mi.2.2.2.1 = some .long) (h : P (some (.long v)) M) : LX TT cl X mi fr lo P PX kc ks pc L [.long v] M := by
  intro p l e R s m args below meth c Qc XC free D sp A as0 F kq kx as L1 S1 H locs cells slots ls h0 hW hS hl hL hSt hc hs
  have h9 := mj_al_cons hSt
  clear hSt
  obtain ⟨_, S1, rfl, rfl, hSt⟩ := h9
  rw [mj_al_nil hSt]
  refine W.widen (k := R.cells) (n := R.slots) (by omega) (by omega) (vx_ret ?_)
  exact W.lret F.1 F.2.1 (F.2.2.2.2.2.1.trans hr) (fun t ht hw => kq as M _ _ t h ⟨_, rfl, rfl⟩ hw (by rw [ht]; exact hW) (hS.F ht) h0) (fun q hq => F.2.2.2.2.2.2.2.2.2.2.2.2.2.1 _ (hS.2.2 q hq)) d F.2.2.2.2.2.2.1
theorem lx_freturn {v : UInt32} (d : decode mi.2.1 pc = .ok (.freturn, 1)) (hr : mi.2.2.2.1 = some .float) (h : P (some (.float v)) M) : LX TT cl X mi fr lo P PX kc ks pc L [.float v] M := by
  intro p l e R s m args below meth c Qc XC free D sp A as0 F kq kx as L1 S1 H locs cells slots ls h0 hW hS hl hL hSt hc hs
  have h9 := mj_al_cons hSt
  clear hSt
  obtain ⟨_, S1, rfl, rfl, hSt⟩ := h9
  rw [mj_al_nil hSt]
  refine W.widen (k := R.cells) (n := R.slots) (by omega) (by omega) (vx_ret ?_)
  exact W.fret F.1 F.2.1 (F.2.2.2.2.2.1.trans hr) (fun t ht hw => kq as M _ _ t h ⟨_, rfl, rfl⟩ hw (by rw [ht]; exact hW) (hS.F ht) h0) (fun q hq => F.2.2.2.2.2.2.2.2.2.2.2.2.2.1 _ (hS.2.2 q hq)) d F.2.2.2.2.2.2.1
theorem lx_dreturn {v : UInt64} (d : decode mi.2.1 pc = .ok (.dreturn, 1)) (hr : mi.2.2.2.1 = some .double) (h : P (some (.double v)) M) : LX TT cl X mi fr lo P PX kc ks pc L [.double v] M := by
  intro p l e R s m args below meth c Qc XC free D sp A as0 F kq kx as L1 S1 H locs cells slots ls h0 hW hS hl hL hSt hc hs
  have h9 := mj_al_cons hSt
  clear hSt
  obtain ⟨_, S1, rfl, rfl, hSt⟩ := h9
  rw [mj_al_nil hSt]
  refine W.widen (k := R.cells) (n := R.slots) (by omega) (by omega) (vx_ret ?_)
  exact W.dret F.1 F.2.1 (F.2.2.2.2.2.1.trans hr) (fun t ht hw => kq as M _ _ t h ⟨_, rfl, rfl⟩ hw (by rw [ht]; exact hW) (hS.F ht) h0) (fun q hq => F.2.2.2.2.2.2.2.2.2.2.2.2.2.1 _ (hS.2.2 q hq)) d F.2.2.2.2.2.2.1
theorem lx_return  (d : decode mi.2.1 pc = .ok (.return_, 1)) (hr : mi.2.2.2.1 = none) (h : P none M) : LX TT cl X mi fr lo P PX kc ks pc L [] M := by
  intro p l e R s m args below meth c Qc XC free D sp A as0 F kq kx as L1 S1 H locs cells slots ls h0 hW hS hl hL hSt hc hs
  rw [mj_al_nil hSt]
  refine W.widen (k := R.cells) (n := R.slots) (by omega) (by omega) (vx_ret ?_)
  exact W.vret F.1 F.2.1 (F.2.2.2.2.2.1.trans hr) (fun t ht hw => kq as M none none t h rfl hw (by rw [ht]; exact hW) (hS.F ht) h0) (fun q hq => F.2.2.2.2.2.2.2.2.2.2.2.2.2.1 _ (hS.2.2 q hq)) d F.2.2.2.2.2.2.1
theorem lx_areturn {v : Value} {rt9 : FieldType} (d : decode mi.2.1 pc = .ok (.areturn, 1)) (hr : mi.2.2.2.1 = some rt9) (hrt : (∃ n, rt9 = .object n) ∨ ∃ t, rt9 = .array t) (hv : mj_isr v = true) (h : P (some v) M) : LX TT cl X mi fr lo P PX kc ks pc L [v] M := by
  intro p l e R s m args below meth c Qc XC free D sp A as0 F kq kx as L1 S1 H locs cells slots ls h0 hW hS hl hL hSt hc hs
  have h9 := mj_al_cons hSt
  clear hSt
  obtain ⟨w, S1, rfl, wr, hSt⟩ := h9
  rw [mj_al_nil hSt]
  have hv9 : w = .null ∨ ∃ a, w = .ref a := by
    rcases mj_isr_spec hv wr with ⟨a, rfl⟩ | rfl
    · exact Or.inr ⟨a, rfl⟩
    · exact Or.inl rfl
  refine W.widen (k := R.cells) (n := R.slots) (by omega) (by omega) (vx_ret ?_)
  exact W.aret F.1 F.2.1 (F.2.2.2.2.2.1.trans hr) hrt hv9 (fun t ht hw => kq as M _ _ t h ⟨_, rfl, wr⟩ hw (by rw [ht]; exact hW) (hS.F ht) h0) (fun q hq => F.2.2.2.2.2.2.2.2.2.2.2.2.2.1 _ (hS.2.2 q hq)) d F.2.2.2.2.2.2.1
theorem lx_sub {L2 : List (Nat × Value)} (is : List Nat) (hp : lv_pick L is = L2) (k : LX TT cl X mi fr lo P PX kc ks pc L2 S M) : LX TT cl X mi fr lo P PX kc ks pc L S M := by
  intro p l e R s m args below meth c Qc XC free D sp A as0 F kq kx as L1 S1 H locs cells slots ls h0 hW hS hl hL hSt hc hs
  subst hp
  obtain ⟨L3, h3, h4⟩ := mj_pick hL is
  exact (k p l e R s m args below meth c Qc XC free D sp A as0 F kq kx as L3 _ H locs cells slots ls h0 hW hS (lv_sub hl is h3) h4 hSt hc hs)
theorem lx_room {kc1 ks1 : Nat} (hc9 : kc1 ≤ kc) (hs9 : ks1 ≤ ks) (k : LX TT cl X mi fr lo P PX kc1 ks1 pc L S M) : LX TT cl X mi fr lo P PX kc ks pc L S M := by
  intro p l e R s m args below meth c Qc XC free D sp A as0 F kq kx as L1 S1 H locs cells slots ls h0 hW hS hl hL hSt hc hs
  exact k p l e R s m args below meth c Qc XC free D sp A as0 F kq kx as L1 _ H locs cells slots ls h0 hW hS hl hL hSt (by omega) (by omega)
end MJR1
