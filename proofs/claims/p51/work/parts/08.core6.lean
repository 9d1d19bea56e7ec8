section MJ6
variable {TT : List Cond} {cl : List vw_C} {X : XT} {mi : MI} {fr lo : Nat} {P : Option Value → mH → Prop} {PX : String → mH → Prop} {kc ks pc : Nat} {L : List (Nat × Value)} {S : List Value} {M : mH}
/-- the known reference k is that static -/
def mj_XZ (X : XT) (k : Nat) (C n d : String) : Prop := ∀ (A : Nat → Prop) (sp : Nat → Nat) (U : State) (H : Heap), X A sp U H → va_Z C n d (.ref (sp k)) A U H
/-- the known reference k is a row of longs, of ints that is never written -/
def mj_XA (X : XT) (k : Nat) (ty : FieldType) (N : Nat) (f : Nat → Value) : Prop := ∀ (A : Nat → Prop) (sp : Nat → Nat) (U : State) (H : Heap), X A sp U H → va_T ty (sp k) N f A U H
/-- ... of ints, the script -/
def mj_XI (X : XT) (k L9 : Nat) (xs : Nat → Int32) : Prop := ∀ (A : Nat → Prop) (sp : Nat → Nat) (U : State) (H : Heap), X A sp U H → va_X (sp k) L9 xs U H ∧ ¬ A (sp k)
theorem lx_getstatic {index k : Nat} {C n ds : String} (d : decode mi.2.1 pc = .ok (.getstatic index, 3)) (h0k : ¬ k = 0) (hX : mj_XZ X k C n ds) (hl1 : Cond.fieldLink mi.1.cls index C n ds ∈ TT) (kk : LX TT cl X mi fr lo P PX kc ks (pc + 3) L (.retAddr k :: S) M) : LX TT cl X mi fr lo P PX kc ks pc L S M := by
  intro p l e R s m args below meth c Qc XC free D sp A as0 F kq kx as L1 S1 H locs cells slots ls h0 hW hS hl hL hSt hc hs
  have hXs := F.2.2.2.2.2.2.2.2.2.2.2.2.2.2.1
  exact va_gets F.1 F.2.1 (hX A sp s s.heap hXs) hS F.2.2.2.1 (F.2.2.2.2.1 _ hl1) (fun _ h => h) d (kk p l e R s m args below meth c Qc XC free D sp A as0 F kq kx as L1 _ H locs cells slots ls h0 hW hS hl hL ⟨⟨sp k, rfl, Or.inr rfl⟩, hSt⟩ hc hs)
theorem mj_rk {as : List Nat} {sp : Nat → Nat} {k : Nat} {w : Value} (h0k : ¬ k = 0) (h : mj_vr as sp (.retAddr k) w) : w = .ref (sp k) := by
  obtain ⟨a, rfl, h | h⟩ := h
  · exact absurd h h0k
  · rw [h]
theorem lx_sarraylength {k N : Nat} {ty : FieldType} {f : Nat → Value} (d : decode mi.2.1 pc = .ok (.arraylength, 1)) (h0k : ¬ k = 0) (hX : mj_XA X k ty N f) (kk : LX TT cl X mi fr lo P PX kc ks (pc + 1) L (.int (Int32.ofNat N) :: S) M) : LX TT cl X mi fr lo P PX kc ks pc L (.retAddr k :: S) M := by
  intro p l e R s m args below meth c Qc XC free D sp A as0 F kq kx as L1 S1 H locs cells slots ls h0 hW hS hl hL hSt hc hs
  have hXs := F.2.2.2.2.2.2.2.2.2.2.2.2.2.2.1
  have h9 := mj_al_cons hSt
  clear hSt
  obtain ⟨w, S1, rfl, wr, hSt⟩ := h9
  rw [mj_rk h0k wr]
  exact va_tlen F.1 F.2.1 (hX A sp s s.heap hXs) hS rfl d (kk p l e R s m args below meth c Qc XC free D sp A as0 F kq kx as L1 _ H locs cells slots ls h0 hW hS hl hL ⟨rfl, hSt⟩ hc hs)
theorem lx_slaload {k N : Nat} {j : Int32} {f : Nat → Value} {x : Int64} (d : decode mi.2.1 pc = .ok (.laload, 1)) (h0k : ¬ k = 0) (hX : mj_XA X k .long N f) (hin : vp_in j N) (hf : f j.toNatClampNeg = .long x) (kk : LX TT cl X mi fr lo P PX kc ks (pc + 1) L (.long x :: S) M) : LX TT cl X mi fr lo P PX kc ks pc L (.int j :: .retAddr k :: S) M := by
  intro p l e R s m args below meth c Qc XC free D sp A as0 F kq kx as L1 S1 H locs cells slots ls h0 hW hS hl hL hSt hc hs
  have hXs := F.2.2.2.2.2.2.2.2.2.2.2.2.2.2.1
  have h9 := mj_al_cons hSt
  clear hSt
  obtain ⟨w, S1, rfl, rfl, hSt⟩ := h9
  have h9 := mj_al_cons hSt
  clear hSt
  obtain ⟨w, S1, rfl, wr, hSt⟩ := h9
  rw [mj_rk h0k wr]
  exact va_tl F.1 F.2.1 (hX A sp s s.heap hXs) hS hin hf d (kk p l e R s m args below meth c Qc XC free D sp A as0 F kq kx as L1 _ H locs cells slots ls h0 hW hS hl hL ⟨rfl, hSt⟩ hc hs)
theorem lx_xlen {k L9 : Nat} {xs : Nat → Int32} (d : decode mi.2.1 pc = .ok (.arraylength, 1)) (h0k : ¬ k = 0) (hX : mj_XI X k L9 xs) (kk : LX TT cl X mi fr lo P PX kc ks (pc + 1) L (.int (Int32.ofNat L9) :: S) M) : LX TT cl X mi fr lo P PX kc ks pc L (.retAddr k :: S) M := by
  intro p l e R s m args below meth c Qc XC free D sp A as0 F kq kx as L1 S1 H locs cells slots ls h0 hW hS hl hL hSt hc hs
  obtain ⟨hx1, hx2⟩ := hX A sp s s.heap F.2.2.2.2.2.2.2.2.2.2.2.2.2.2.1
  have h9 := mj_al_cons hSt
  clear hSt
  obtain ⟨w, S1, rfl, wr, hSt⟩ := h9
  rw [mj_rk h0k wr]
  have hlt : sp k < s.heap.size := by obtain ⟨z, h, -⟩ := hx1; exact (Array.getElem?_eq_some_iff.mp h).1
  exact va_slen F.1 F.2.1 hx1 hlt hx2 hS d (kk p l e R s m args below meth c Qc XC free D sp A as0 F kq kx as L1 _ H locs cells slots ls h0 hW hS hl hL ⟨rfl, hSt⟩ hc hs)
theorem lx_xload {k L9 : Nat} {xs : Nat → Int32} {j : Int32} (d : decode mi.2.1 pc = .ok (.iaload, 1)) (h0k : ¬ k = 0) (hX : mj_XI X k L9 xs) (hin : vp_in j L9) (kk : LX TT cl X mi fr lo P PX kc ks (pc + 1) L (.int (xs j.toNatClampNeg) :: S) M) : LX TT cl X mi fr lo P PX kc ks pc L (.int j :: .retAddr k :: S) M := by
  intro p l e R s m args below meth c Qc XC free D sp A as0 F kq kx as L1 S1 H locs cells slots ls h0 hW hS hl hL hSt hc hs
  obtain ⟨hx1, hx2⟩ := hX A sp s s.heap F.2.2.2.2.2.2.2.2.2.2.2.2.2.2.1
  have h9 := mj_al_cons hSt
  clear hSt
  obtain ⟨w, S1, rfl, rfl, hSt⟩ := h9
  have h9 := mj_al_cons hSt
  clear hSt
  obtain ⟨w, S1, rfl, wr, hSt⟩ := h9
  rw [mj_rk h0k wr]
  have hlt : sp k < s.heap.size := by obtain ⟨z, h, -⟩ := hx1; exact (Array.getElem?_eq_some_iff.mp h).1
  exact va_sld F.1 F.2.1 hx1 hlt hx2 hS hin d (kk p l e R s m args below meth c Qc XC free D sp A as0 F kq kx as L1 _ H locs cells slots ls h0 hW hS hl hL ⟨rfl, hSt⟩ hc hs)
/-- numbers of the pool -/
theorem lx_ldc {index : Nat} {v : Int32} (d : decode mi.2.1 pc = .ok (.ldc index, 2)) (hc9 : Cond.constant mi.1.cls index v ∈ TT) (kk : LX TT cl X mi fr lo P PX kc ks (pc + 2) L (.int v :: S) M) : LX TT cl X mi fr lo P PX kc ks pc L S M := by
  intro p l e R s m args below meth c Qc XC free D sp A as0 F kq kx as L1 S1 H locs cells slots ls h0 hW hS hl hL hSt hc hs
  exact lv_ldc F.1 F.2.1 F.2.2.2.1 (F.2.2.2.2.1 _ hc9) d (kk p l e R s m args below meth c Qc XC free D sp A as0 F kq kx as L1 _ H locs cells slots ls h0 hW hS hl hL ⟨rfl, hSt⟩ hc hs)
theorem lx_ldcw {index : Nat} {v : Int32} (d : decode mi.2.1 pc = .ok (.ldc_w index, 3)) (hc9 : Cond.constant mi.1.cls index v ∈ TT) (kk : LX TT cl X mi fr lo P PX kc ks (pc + 3) L (.int v :: S) M) : LX TT cl X mi fr lo P PX kc ks pc L S M := by
  intro p l e R s m args below meth c Qc XC free D sp A as0 F kq kx as L1 S1 H locs cells slots ls h0 hW hS hl hL hSt hc hs
  exact lv_ldcw F.1 F.2.1 F.2.2.2.1 (F.2.2.2.2.1 _ hc9) d (kk p l e R s m args below meth c Qc XC free D sp A as0 F kq kx as L1 _ H locs cells slots ls h0 hW hS hl hL ⟨rfl, hSt⟩ hc hs)
theorem lx_ldc2 {index : Nat} {v : Int64} (d : decode mi.2.1 pc = .ok (.ldc2_w index, 3)) (hc9 : Cond.constantLong mi.1.cls index v ∈ TT) (kk : LX TT cl X mi fr lo P PX kc ks (pc + 3) L (.long v :: S) M) : LX TT cl X mi fr lo P PX kc ks pc L S M := by
  intro p l e R s m args below meth c Qc XC free D sp A as0 F kq kx as L1 S1 H locs cells slots ls h0 hW hS hl hL hSt hc hs
  exact lv_ldc2 F.1 F.2.1 F.2.2.2.1 (F.2.2.2.2.1 _ hc9) d (kk p l e R s m args below meth c Qc XC free D sp A as0 F kq kx as L1 _ H locs cells slots ls h0 hW hS hl hL ⟨rfl, hSt⟩ hc hs)
end MJ6
