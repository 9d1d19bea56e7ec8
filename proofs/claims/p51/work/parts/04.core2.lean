section MJ2
/-- the heap with one more thing -/
theorem mj_WR_push {D : va_G} {cl : List vw_C} {sp : Nat → Nat} {A : Nat → Prop} {U : State} {as : List Nat} {M : mH} {ws : va_W} {tys tys1 : List (ClassId × FieldType)} {H1 : Heap} {q : Nat} {e : mE} {x : va_E}
    (hK : va_K D cl tys1 U) (hP : va_P D cl (ws ++ [(q, x)]) H1) (hD : va_D A (ws ++ [(q, x)])) (hr : mj_hr as sp tys M ws) (ht : ∀ (i : Nat) (z : ClassId × FieldType), tys[i]? = some z → tys1[i]? = some z) (he : mj_er (as ++ [q]) sp tys1 e x) : mj_WR D cl sp A U (as ++ [q]) (M ++ [e]) H1 := by
  refine ⟨_, tys1, hK, hP, hD, by simp [hr.1], by simp [hr.2.1], fun i e1 hi => ?_⟩
  rcases Nat.lt_or_ge i M.length with hlt | hge
  · rw [List.getElem?_append_left hlt] at hi
    obtain ⟨a, y, h1, h2, h3⟩ := hr.2.2 i e1 hi
    exact ⟨a, y, mj_le_app _ _ h1, by rw [List.getElem?_append_left (by rw [hr.2.1]; exact hlt)]; exact h2, mj_er_mono mj_le_app ht h3⟩
  · rw [List.getElem?_append_right hge] at hi
    have h0 : i - M.length = 0 := by
      rcases Nat.eq_zero_or_pos (i - M.length) with h | h
      · exact h
      · rw [List.getElem?_eq_none (by simp; omega)] at hi; cases hi
    have hi1 : i = M.length := by omega
    subst hi1
    simp at hi
    subst hi
    refine ⟨q, x, ?_, ?_, he⟩
    · rw [← hr.1]; simp
    · rw [← hr.2.1]; simp
theorem mj_hr_set {as : List Nat} {sp : Nat → Nat} {M : mH} {ws : va_W} {tys : List (ClassId × FieldType)} {i a : Nat} {e : mE} {x : va_E} (hr : mj_hr as sp tys M ws) (ha : as[i]? = some a) (he : mj_er as sp tys e x) : mj_hr as sp tys (M.set i e) (ws.set i (a, x)) := by
  refine ⟨by simp [hr.1], by simp [hr.2.1], fun j e1 hj => ?_⟩
  by_cases h : i = j
  · subst h
    have hlt : i < M.length := by
      have := (List.getElem?_eq_some_iff.mp hj).1
      simpa using this
    rw [List.getElem?_set_self hlt] at hj
    cases hj
    exact ⟨a, x, ha, by rw [List.getElem?_set_self (by rw [hr.2.1]; exact hlt)], he⟩
  · rw [List.getElem?_set_ne h] at hj
    obtain ⟨a1, y, h1, h2, h3⟩ := hr.2.2 j e1 hj
    exact ⟨a1, y, h1, by rw [List.getElem?_set_ne h]; exact h2, h3⟩
/-- an object of the heap, as the machine has it -/
theorem mj_obj {as : List Nat} {sp : Nat → Nat} {M : mH} {ws : va_W} {tys : List (ClassId × FieldType)} {i a : Nat} {ci : Nat} {fs : List Value} (hr : mj_hr as sp tys M ws) (ha : as[i]? = some a) (hi : M[i]? = some (.inr (ci, fs))) : ∃ gs, ws[i]? = some (a, .inr (ci, gs)) ∧ mj_al (mj_vr as sp) fs gs := by
  obtain ⟨a1, y, h1, h2, h3⟩ := hr.2.2 i _ hi
  cases ha.symm.trans h1
  rcases y with y | ⟨cj, gs⟩
  · exact h3.elim
  · obtain ⟨e1, e2⟩ := h3
    cases e1
    exact ⟨gs, h2, e2⟩
theorem mj_arr {as : List Nat} {sp : Nat → Nat} {M : mH} {ws : va_W} {tys : List (ClassId × FieldType)} {i a : Nat} {ty : FieldType} {x : vp_A} (hr : mj_hr as sp tys M ws) (ha : as[i]? = some a) (hi : M[i]? = some (.inl (ty, x))) : ∃ (cA t : Nat) (y : vp_A), ws[i]? = some (a, .inl (cA, y)) ∧ tys[t]? = some (cA, ty) ∧ mj_ar as x y := by
  obtain ⟨a1, y, h1, h2, h3⟩ := hr.2.2 i _ hi
  cases ha.symm.trans h1
  rcases y with ⟨cA, y⟩ | y
  · obtain ⟨⟨t, e1⟩, e2⟩ := h3
    exact ⟨cA, t, y, h2, e1, e2⟩
  · exact h3.elim
theorem mj_ar_i {as : List Nat} {n : Nat} {f : Nat → Int32} {y : vp_A} (h : mj_ar as (n, .inl f) y) : y = (n, .inl f) := by
  obtain ⟨m, y⟩ := y
  obtain ⟨h1, h2⟩ := h
  rcases y with g | g | g | g | g <;> first | exact h2.elim | skip
  cases (h1 : n = m); cases (h2 : f = g); rfl
theorem mj_ar_l {as : List Nat} {n : Nat} {f : Nat → Int64} {y : vp_A} (h : mj_ar as (n, .inr (.inl f)) y) : y = (n, .inr (.inl f)) := by
  obtain ⟨m, y⟩ := y
  obtain ⟨h1, h2⟩ := h
  rcases y with g | g | g | g | g <;> first | exact h2.elim | skip
  cases (h1 : n = m); cases (h2 : f = g); rfl
theorem mj_ar_d {as : List Nat} {n : Nat} {f : Nat → UInt64} {y : vp_A} (h : mj_ar as (n, .inr (.inr (.inr (.inl f)))) y) : y = (n, .inr (.inr (.inr (.inl f)))) := by
  obtain ⟨m, y⟩ := y
  obtain ⟨h1, h2⟩ := h
  rcases y with g | g | g | g | g <;> first | exact h2.elim | skip
  cases (h1 : n = m); cases (h2 : f = g); rfl
theorem mj_ar_q {as : List Nat} {n : Nat} {f : Nat → Option Nat} {y : vp_A} (h : mj_ar as (n, .inr (.inr (.inr (.inr f)))) y) : ∃ g, y = (n, .inr (.inr (.inr (.inr g)))) ∧ ∀ j, mj_qr as (f j) (g j) := by
  obtain ⟨m, y⟩ := y
  obtain ⟨h1, h2⟩ := h
  rcases y with g | g | g | g | g <;> first | exact h2.elim | skip
  cases (h1 : n = m); exact ⟨g, rfl, h2⟩
theorem mj_ar_len {as : List Nat} {x y : vp_A} (h : mj_ar as x y) : y.1 = x.1 := h.1.symm
theorem mj_narrow {as : List Nat} {sp : Nat → Nat} {ty : FieldType} {v w : Value} (hr : mj_vr as sp v w) (hn : narrow ty v = v) : narrow ty w = w := by
  cases v with
  | ref i => obtain ⟨a, h1, rfl⟩ := hr; cases ty <;> rfl
  | retAddr k => obtain ⟨a, rfl, h1⟩ := hr; cases ty <;> rfl
  | null => rw [show w = _ from hr]; exact hn
  | int x => rw [show w = _ from hr]; exact hn
  | long x => rw [show w = _ from hr]; exact hn
  | float x => rw [show w = _ from hr]; exact hn
  | double x => rw [show w = _ from hr]; exact hn
def mj_fits (ty : FieldType) (v : Value) : Bool := match v with | .retAddr _ => fits ty .null | v => fits ty v
theorem mj_fit {as : List Nat} {sp : Nat → Nat} {ty : FieldType} {v w : Value} (hr : mj_vr as sp v w) (hn : mj_fits ty v = true) : fits ty w = true := by
  cases v with
  | ref i => obtain ⟨a, h1, rfl⟩ := hr; cases ty <;> first | rfl | exact hn
  | retAddr k => obtain ⟨a, rfl, h1⟩ := hr; cases ty <;> first | rfl | exact hn
  | null => rw [show w = _ from hr]; exact hn
  | int x => rw [show w = _ from hr]; exact hn
  | long x => rw [show w = _ from hr]; exact hn
  | float x => rw [show w = _ from hr]; exact hn
  | double x => rw [show w = _ from hr]; exact hn
theorem mj_al_pl {as : List Nat} {sp : Nat → Nat} : ∀ {fs : List Value}, fs.all mj_pl = true → mj_al (mj_vr as sp) fs fs := by
  intro fs
  induction fs with
  | nil => intro _; trivial
  | cons v fs ih =>
    intro h
    rw [List.all_cons, Bool.and_eq_true] at h
    exact ⟨mj_pl_rf h.1, ih h.2⟩
/-- a field, told by its class number and place: what the words say -/
def mj_FS (TT : List Cond) (cl : List vw_C) (own : String) (index ci k : Nat) : Prop :=
  ∃ (C : String) (T : u_T) (N : Nat), cl[ci]? = some (C, T, N) ∧ (∀ w ∈ u_ws C T N, w ∈ TT) ∧ k < N ∧ Cond.fieldLink own index (T k).1 (T k).2.1 (T k).2.2.1 ∈ TT
def mj_PS (TT : List Cond) (cl : List vw_C) (own : String) (index ci k : Nat) (ty : FieldType) (fin : Bool) : Prop :=
  ∃ (C : String) (T : u_T) (N : Nat) (ty0 : Nat → FieldType), cl[ci]? = some (C, T, N) ∧ (∀ w ∈ u_ws C T N, w ∈ TT) ∧ k < N ∧ Cond.fieldLink own index (T k).1 (T k).2.1 (T k).2.2.1 ∈ TT ∧
    (∀ k, k < N → parseFieldDescriptor (T k).2.2.1 = some (ty0 k)) ∧ (∀ a, a < N → ∀ b, b < N → a ≠ b → (T a).2.1 ≠ (T b).2.1) ∧ parseFieldDescriptor (T k).2.2.1 = some ty ∧ (T k).2.2.2 = fin ∧ (fin = true → (T k).1 = own)
/-- a class whose objects are made -/
def mj_NS (TT : List Cond) (cl : List vw_C) (own : String) (index ci N : Nat) (fs : List Value) : Prop :=
  ∃ (C : String) (T : u_T) (ty : Nat → FieldType), cl[ci]? = some (C, T, N) ∧ (∀ w ∈ u_ws C T N, w ∈ TT) ∧ (∀ k, k < N → parseFieldDescriptor (T k).2.2.1 = some (ty k)) ∧ Cond.classLink own index C ∈ TT ∧ Cond.instantiable C N ∈ TT ∧ Cond.initialized C ∈ TT ∧ (∀ j, j < N → defaultValue (ty j) = vp_V fs j)
variable {TT : List Cond} {cl : List vw_C} {X : XT} {mi : MI} {fr lo : Nat} {P : Option Value → mH → Prop} {PX : String → mH → Prop} {kc ks pc : Nat} {L : List (Nat × Value)} {S : List Value} {M : mH}
theorem lx_getfield {index i ci k : Nat} {fs : List Value} {v : Value} (d : decode mi.2.1 pc = .ok (.getfield index, 3)) (hf : mj_FS TT cl mi.1.cls index ci k) (hM : M[i]? = some (.inr (ci, fs))) (hv : fs[k]? = some v)
    (kk : LX TT cl X mi fr lo P PX kc ks (pc + 3) L (v :: S) M) : LX TT cl X mi fr lo P PX kc ks pc L (.ref i :: S) M := by
  intro p l e R s m args below meth c Qc XC free D sp A as0 F kq kx as L1 S1 H locs cells slots ls h0 hW hS hl hL hSt hc hs
  have h9 := mj_al_cons hSt
  clear hSt
  obtain ⟨w, S1, rfl, ⟨a, ha, rfl⟩, hSt⟩ := h9
  have hW0 := hW
  obtain ⟨ws, tys, hK, hP, hD, hr⟩ := hW
  obtain ⟨gs, h1, h2⟩ := mj_obj hr ha hM
  obtain ⟨y, h3, h4⟩ := mj_al_get h2 hv
  obtain ⟨C, T, N, e1, e2, e3, e4⟩ := hf
  exact va_get (D := D) F.1 F.2.1 F.2.2.2.2.1 e2 F.2.2.2.1 hK hP i h1 e1 k e3 (F.2.2.2.2.1 _ e4) (fun _ h => h) h3 d (kk p l e R s m args below meth c Qc XC free D sp A as0 F kq kx as L1 _ H locs cells slots ls h0 hW0 hS hl hL ⟨h4, hSt⟩ hc hs)
theorem lx_putfield {index i ci k : Nat} {fs : List Value} {v : Value} {ty : FieldType} (d : decode mi.2.1 pc = .ok (.putfield index, 3)) (hf : mj_PS TT cl mi.1.cls index ci k ty false) (hM : M[i]? = some (.inr (ci, fs))) (hk : k < fs.length) (hn : narrow ty v = v) (hfi : mj_fits ty v = true)
    (kk : LX TT cl X mi fr lo P PX kc ks (pc + 3) L S (M.set i (.inr (ci, fs.set k v)))) : LX TT cl X mi fr lo P PX kc ks pc L (v :: .ref i :: S) M := by
  intro p l e R s m args below meth c Qc XC free D sp A as0 F kq kx as L1 S1 H locs cells slots ls h0 hW hS hl hL hSt hc hs
  have h9 := mj_al_cons hSt
  clear hSt
  obtain ⟨w, S1, rfl, wr, hSt⟩ := h9
  have h9 := mj_al_cons hSt
  clear hSt
  obtain ⟨w1, S1, rfl, ⟨a, ha, rfl⟩, hSt⟩ := h9
  obtain ⟨ws, tys, hK, hP, hD, hr⟩ := hW
  obtain ⟨gs, h1, h2⟩ := mj_obj hr ha hM
  obtain ⟨C, T, N, ty0, e1, e2, e3, e4, e5, e6, e7, e8, -⟩ := hf
  exact va_put (D := D) F.1 F.2.1 F.2.2.2.2.1 e2 ty0 e5 e6 F.2.2.2.1 hK hP hD hS i h1 e1 k e3 (F.2.2.2.2.1 _ e4) (fun _ h => h) e8 e7 (mj_narrow wr hn) (mj_fit wr hfi) (by rw [mj_al_len h2]; exact hk) d (fun H1 locs1 hP1 hD1 hS1 =>
    kk p l e R s m args below meth c Qc XC free D sp A as0 F kq kx as L1 _ H1 locs1 cells slots ls h0 ⟨_, tys, hK, hP1, hD1, mj_hr_set hr ha ⟨rfl, mj_al_set wr h2⟩⟩ hS1 hl hL hSt hc hs)
theorem lx_putfinal {index i ci k : Nat} {fs : List Value} {v : Value} {ty : FieldType} (d : decode mi.2.1 pc = .ok (.putfield index, 3)) (hini : mi.1.name = "<init>") (hf : mj_PS TT cl mi.1.cls index ci k ty true) (hM : M[i]? = some (.inr (ci, fs))) (hk : k < fs.length) (hn : narrow ty v = v) (hfi : mj_fits ty v = true)
    (kk : LX TT cl X mi fr lo P PX kc ks (pc + 3) L S (M.set i (.inr (ci, fs.set k v)))) : LX TT cl X mi fr lo P PX kc ks pc L (v :: .ref i :: S) M := by
  intro p l e R s m args below meth c Qc XC free D sp A as0 F kq kx as L1 S1 H locs cells slots ls h0 hW hS hl hL hSt hc hs
  have h9 := mj_al_cons hSt
  clear hSt
  obtain ⟨w, S1, rfl, wr, hSt⟩ := h9
  have h9 := mj_al_cons hSt
  clear hSt
  obtain ⟨w1, S1, rfl, ⟨a, ha, rfl⟩, hSt⟩ := h9
  obtain ⟨ws, tys, hK, hP, hD, hr⟩ := hW
  obtain ⟨gs, h1, h2⟩ := mj_obj hr ha hM
  obtain ⟨C, T, N, ty0, e1, e2, e3, e4, e5, e6, e7, e8, e9⟩ := hf
  exact va_putF (D := D) F.1 F.2.1 F.2.2.2.2.1 e2 ty0 e5 e6 F.2.2.2.1 hK hP hD hS i h1 e1 k e3 (F.2.2.2.2.1 _ e4) (fun _ h => h) e8 (F.2.2.2.2.2.2.2.2.1.trans hini) (e9 rfl) e7 (mj_narrow wr hn) (mj_fit wr hfi) (by rw [mj_al_len h2]; exact hk) d (fun H1 locs1 hP1 hD1 hS1 =>
    kk p l e R s m args below meth c Qc XC free D sp A as0 F kq kx as L1 _ H1 locs1 cells slots ls h0 ⟨_, tys, hK, hP1, hD1, mj_hr_set hr ha ⟨rfl, mj_al_set wr h2⟩⟩ hS1 hl hL hSt hc hs)
theorem lx_new {index ci N : Nat} {fs : List Value} {kc ks : Nat} (d : decode mi.2.1 pc = .ok (.new index, 3)) (hf : mj_NS TT cl mi.1.cls index ci N fs) (hp : fs.all mj_pl = true)
    (kk : LX TT cl X mi fr lo P PX kc ks (pc + 3) L (.ref M.length :: S) (M ++ [.inr (ci, fs)])) : LX TT cl X mi fr lo P PX (kc + 1) (ks + N) pc L S M := by
  intro p l e R s m args below meth c Qc XC free D sp A as0 F kq kx as L1 S1 H locs cells slots ls h0 hW hS hl hL hSt hc hs
  obtain ⟨ws, tys, hK, hP, hD, hr⟩ := hW
  obtain ⟨C, T, ty, e1, e2, e3, e4, e5, e6, e7⟩ := hf
  refine va_new (D := D) F.1 F.2.1 F.2.2.2.2.1 e2 ty e3 F.2.2.2.1 (F.2.2.2.2.1 _ e4) (F.2.2.2.2.1 _ e5) (F.2.2.2.2.1 _ e6) hK hP hD hS F.2.2.2.2.2.2.2.2.2.2.2.2.1 e1 e7 (by omega) (by omega) d (fun q H1 hP1 hD1 hS1 => ?_)
  have hle : mj_le as (as ++ [q]) := mj_le_app
  exact kk p l e R s m args below meth c Qc XC free D sp A as0 F kq kx (as ++ [q]) L1 _ H1 locs (cells + 1) (slots + N) ls (mj_le_tr h0 hle) (mj_WR_push hK hP1 hD1 hr (fun _ _ h => h) ⟨rfl, mj_al_pl hp⟩) hS1 hl (mj_al_mono (fun _ _ h => mj_lr_mono hle h) hL)
    ⟨⟨q, by rw [← hr.1]; simp, rfl⟩, mj_al_mono (fun _ _ h => mj_vr_mono hle h) hSt⟩ (by omega) (by omega)
end MJ2
