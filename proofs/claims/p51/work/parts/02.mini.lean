section MJ
abbrev mE : Type := (FieldType × vp_A) ⊕ (Nat × List Value)
abbrev mH : Type := List mE
/-- a method: name, bytes, locals, return type, exception table -/
abbrev MI : Type := MethodName × ByteArray × Nat × Option FieldType × List (Nat × Nat × Nat × Nat)
def mj_al {α β : Type} (R : α → β → Prop) : List α → List β → Prop
  | [], [] => True
  | a :: l, b :: m => R a b ∧ mj_al R l m
  | _, _ => False
/-- a value of the small machine and a value of the machine: a reference is a place in the list of addresses; retAddr 0: some reference; retAddr k: a reference that is known -/
def mj_vr (as : List Nat) (sp : Nat → Nat) (v w : Value) : Prop := match v with
  | .ref i => ∃ a, as[i]? = some a ∧ w = .ref a
  | .retAddr k => ∃ a, w = .ref a ∧ (k = 0 ∨ a = sp k)
  | v => w = v
def mj_lr (as : List Nat) (sp : Nat → Nat) (q q' : Nat × Value) : Prop := q'.1 = q.1 ∧ mj_vr as sp q.2 q'.2
def mj_or (as : List Nat) (sp : Nat → Nat) (v w : Option Value) : Prop := match v with
  | none => w = none
  | some v => ∃ w', w = some w' ∧ mj_vr as sp v w'
def mj_qr (as : List Nat) (x y : Option Nat) : Prop := match x with
  | none => y = none
  | some i => ∃ a, as[i]? = some a ∧ y = some a
def mj_ar (as : List Nat) (x y : vp_A) : Prop := x.1 = y.1 ∧ match x.2, y.2 with
  | .inl f, .inl g => f = g
  | .inr (.inl f), .inr (.inl g) => f = g
  | .inr (.inr (.inl f)), .inr (.inr (.inl g)) => f = g
  | .inr (.inr (.inr (.inl f))), .inr (.inr (.inr (.inl g))) => f = g
  | .inr (.inr (.inr (.inr f))), .inr (.inr (.inr (.inr g))) => ∀ j, mj_qr as (f j) (g j)
  | _, _ => False
def mj_er (as : List Nat) (sp : Nat → Nat) (tys : List (ClassId × FieldType)) (e : mE) (q : va_E) : Prop := match e, q with
  | .inl (ty, x), .inl (cA, y) => (∃ t : Nat, tys[t]? = some (cA, ty)) ∧ mj_ar as x y
  | .inr (ci, fs), .inr (cj, gs) => ci = cj ∧ mj_al (mj_vr as sp) fs gs
  | _, _ => False
def mj_hr (as : List Nat) (sp : Nat → Nat) (tys : List (ClassId × FieldType)) (M : mH) (ws : va_W) : Prop :=
  as.length = M.length ∧ ws.length = M.length ∧ ∀ (i : Nat) (e : mE), M[i]? = some e → ∃ (a : Nat) (q : va_E), as[i]? = some a ∧ ws[i]? = some (a, q) ∧ mj_er as sp tys e q
def mj_WR (D : va_G) (cl : List vw_C) (sp : Nat → Nat) (A : Nat → Prop) (U : State) (as : List Nat) (M : mH) (H : Heap) : Prop :=
  ∃ (ws : va_W) (tys : List (ClassId × FieldType)), va_K D cl tys U ∧ va_P D cl ws H ∧ va_D A ws ∧ mj_hr as sp tys M ws
def mj_le (as as1 : List Nat) : Prop := ∀ (i a : Nat), as[i]? = some a → as1[i]? = some a
abbrev XT : Type := (Nat → Prop) → (Nat → Nat) → State → Heap → Prop
def mj_XOK (X : XT) : Prop :=
  (∀ A sp U H H1, X A sp U H → H.size ≤ H1.size → (∀ q : Nat, q < H.size → ¬ A q → H1[q]? = H[q]?) → X A sp U H1) ∧
  (∀ A B sp U H, (∀ q, B q → A q) → X A sp U H → X B sp U H) ∧
  (∀ A sp (U T : State) H, U.WarmedH T.vm → X A sp U H → X A sp T H) ∧
  (∀ A sp (U T : State) H, T.vm = U.vm → X A sp U H → X A sp T H)
def mj_FX (TT : List Cond) (X : XT) (mi : MI) (fr lo : Nat) (p : Program) (l : Launch) (R : Room) (s : State) (m : MethodId) (args : Array Value) (meth : Method) (c : Code) (free : Addr → Prop) (sp : Nat → Nat) (A : Nat → Prop) : Prop :=
  p.tables.exec = Jvm.exec ∧ c.code = mi.2.1 ∧ c.maxLocals = mi.2.2.1 ∧ s.vm.findClass mi.1.cls = some m.cls ∧ (∀ w ∈ TT, w.before args s = true) ∧ meth.sig.returnType = mi.2.2.2.1 ∧ meth.locks = false ∧ c.exceptionTable.toList = tableOf mi.2.2.2.2 ∧ meth.name = mi.1.name ∧ l.stackTraces = false ∧ fr ≤ R.frames ∧ lo ≤ R.locals ∧ (∀ q : Nat, s.heap.size ≤ q → A q) ∧ (∀ q, A q → free q) ∧ X A sp s s.heap ∧ mj_XOK X
def mj_KQ (cl : List vw_C) (P : Option Value → mH → Prop) (s : State) (args : Array Value) (D : va_G) (sp : Nat → Nat) (A : Nat → Prop) (as0 : List Nat) (Qc : Array Value → State → Outcome → State → Prop) : Prop :=
  ∀ (as : List Nat) (M : mH) (v w : Option Value) (t : State), P v M → mj_or as sp v w → s.WarmedH t.vm → mj_WR D cl sp A s as M t.heap → va_F A s t → mj_le as0 as → Qc args s (.returned w) t
def mj_KX (cl : List vw_C) (PX : String → mH → Prop) (s : State) (D : va_G) (sp : Nat → Nat) (A : Nat → Prop) (as0 : List Nat) (XC : String → State → State → Prop) : Prop :=
  ∀ (as : List Nat) (E : String) (M : mH) (t : State), PX E M → s.vm.Alike t.vm → mj_WR D cl sp A s as M t.heap → va_F A s t → mj_le as0 as → XC E s t
/-- the body of a method, at an instruction, with so many frames, words of locals, cells and slots left: it comes to a return with P, or throws with PX -/
def LX (TT : List Cond) (cl : List vw_C) (X : XT) (mi : MI) (fr lo : Nat) (P : Option Value → mH → Prop) (PX : String → mH → Prop) (kc ks pc : Nat) (L : List (Nat × Value)) (S : List Value) (M : mH) : Prop :=
  ∀ (p : Program) (l : Launch) (e : Env) (R : Room) (s : State) (m : MethodId) (args : Array Value) (below : List Frame) (meth : Method) (c : Code) (Qc : Array Value → State → Outcome → State → Prop) (XC : String → State → State → Prop) (free : Addr → Prop) (D : va_G) (sp : Nat → Nat) (A : Nat → Prop) (as0 : List Nat),
    mj_FX TT X mi fr lo p l R s m args meth c free sp A → mj_KQ cl P s args D sp A as0 Qc → mj_KX cl PX s D sp A as0 XC →
    ∀ (as : List Nat) (L1 : List (Nat × Value)) (S1 : List Value) (H : Heap) (locs : List Loc) (cells slots : Nat) (ls : Array Slot),
      mj_le as0 as → mj_WR D cl sp A s as M H → va_S A s.heap H locs → lv_has ls mi.2.2.1 L1 → mj_al (mj_lr as sp) L L1 → mj_al (mj_vr as sp) S S1 → cells + kc ≤ R.cells → slots + ks ≤ R.slots →
      W p l e R s m args below meth c H locs cells slots (vx_MQ below Qc XC args s R.cells R.slots free) (F0 m pc ls S1)
-- ===== lists =====
theorem mj_al_nil {α β : Type} {R : α → β → Prop} {m : List β} (h : mj_al R [] m) : m = [] := by
  cases m with
  | nil => rfl
  | cons => exact h.elim
theorem mj_al_cons {α β : Type} {R : α → β → Prop} {a : α} {l : List α} {m : List β} (h : mj_al R (a :: l) m) : ∃ b m1, m = b :: m1 ∧ R a b ∧ mj_al R l m1 := by
  cases m with
  | nil => exact h.elim
  | cons b m1 => exact ⟨b, m1, rfl, h.1, h.2⟩
theorem mj_al_mono {α β : Type} {R R1 : α → β → Prop} (hR : ∀ a b, R a b → R1 a b) : ∀ {l : List α} {m : List β}, mj_al R l m → mj_al R1 l m := by
  intro l
  induction l with
  | nil => intro m h; rw [mj_al_nil h]; trivial
  | cons a l ih =>
    intro m h
    obtain ⟨b, m1, rfl, h1, h2⟩ := mj_al_cons h
    exact ⟨hR _ _ h1, ih h2⟩
theorem mj_al_len {α β : Type} {R : α → β → Prop} : ∀ {l : List α} {m : List β}, mj_al R l m → m.length = l.length := by
  intro l
  induction l with
  | nil => intro m h; rw [mj_al_nil h]; rfl
  | cons a l ih =>
    intro m h
    obtain ⟨b, m1, rfl, h1, h2⟩ := mj_al_cons h
    simp [ih h2]
theorem mj_al_get {α β : Type} {R : α → β → Prop} : ∀ {l : List α} {m : List β} {k : Nat} {a : α}, mj_al R l m → l[k]? = some a → ∃ b, m[k]? = some b ∧ R a b := by
  intro l
  induction l with
  | nil => intro m k a h hk; simp at hk
  | cons a0 l ih =>
    intro m k a h hk
    obtain ⟨b, m1, rfl, h1, h2⟩ := mj_al_cons h
    cases k with
    | zero => simp at hk; subst hk; exact ⟨b, by simp, h1⟩
    | succ k => simp at hk; simpa using ih h2 hk
theorem mj_al_set {α β : Type} {R : α → β → Prop} {a : α} {b : β} (hab : R a b) : ∀ {l : List α} {m : List β} {k : Nat}, mj_al R l m → mj_al R (l.set k a) (m.set k b) := by
  intro l
  induction l with
  | nil => intro m k h; rw [mj_al_nil h]; trivial
  | cons a0 l ih =>
    intro m k h
    obtain ⟨b0, m1, rfl, h1, h2⟩ := mj_al_cons h
    cases k with
    | zero => exact ⟨hab, h2⟩
    | succ k => exact ⟨h1, ih h2⟩
theorem mj_al_app {α β : Type} {R : α → β → Prop} {l2 : List α} {m2 : List β} (h2 : mj_al R l2 m2) : ∀ {l : List α} {m : List β}, mj_al R l m → mj_al R (l ++ l2) (m ++ m2) := by
  intro l
  induction l with
  | nil => intro m h; rw [mj_al_nil h]; exact h2
  | cons a0 l ih =>
    intro m h
    obtain ⟨b0, m1, rfl, h1, h3⟩ := mj_al_cons h
    exact ⟨h1, ih h3⟩
theorem mj_al_split {α β : Type} {R : α → β → Prop} {l2 : List α} : ∀ {l : List α} {m : List β}, mj_al R (l ++ l2) m → ∃ m1 m2, m = m1 ++ m2 ∧ mj_al R l m1 ∧ mj_al R l2 m2 := by
  intro l
  induction l with
  | nil => intro m h; exact ⟨[], m, rfl, trivial, h⟩
  | cons a0 l ih =>
    intro m h
    obtain ⟨b0, m1, rfl, h1, h3⟩ := mj_al_cons h
    obtain ⟨x, y, rfl, h4, h5⟩ := ih h3
    exact ⟨b0 :: x, y, rfl, ⟨h1, h4⟩, h5⟩
theorem mj_al_rev {α β : Type} {R : α → β → Prop} : ∀ {l : List α} {m : List β}, mj_al R l m → mj_al R l.reverse m.reverse := by
  intro l
  induction l with
  | nil => intro m h; rw [mj_al_nil h]; trivial
  | cons a0 l ih =>
    intro m h
    obtain ⟨b0, m1, rfl, h1, h3⟩ := mj_al_cons h
    rw [List.reverse_cons, List.reverse_cons]
    exact mj_al_app (show mj_al R [a0] [b0] from ⟨h1, trivial⟩) (ih h3)
theorem mj_al_filter {α β : Type} {R : α → β → Prop} {f : α → Bool} {g : β → Bool} (hfg : ∀ a b, R a b → f a = g b) : ∀ {l : List α} {m : List β}, mj_al R l m → mj_al R (l.filter f) (m.filter g) := by
  intro l
  induction l with
  | nil => intro m h; rw [mj_al_nil h]; trivial
  | cons a0 l ih =>
    intro m h
    obtain ⟨b0, m1, rfl, h1, h3⟩ := mj_al_cons h
    rw [List.filter_cons, List.filter_cons, hfg _ _ h1]
    cases g b0 with
    | true => exact ⟨h1, ih h3⟩
    | false => exact ih h3
theorem mj_al_mem {α β : Type} {R : α → β → Prop} {a : α} : ∀ {l : List α} {m : List β}, mj_al R l m → a ∈ l → ∃ b, b ∈ m ∧ R a b := by
  intro l
  induction l with
  | nil => intro m h ha; cases ha
  | cons a0 l ih =>
    intro m h ha
    obtain ⟨b0, m1, rfl, h1, h3⟩ := mj_al_cons h
    rcases List.mem_cons.mp ha with rfl | ha
    · exact ⟨b0, List.mem_cons_self, h1⟩
    · obtain ⟨b, hb, hr⟩ := ih h3 ha
      exact ⟨b, List.mem_cons_of_mem _ hb, hr⟩
-- ===== relations grow =====
theorem mj_le_rf {as : List Nat} : mj_le as as := fun _ _ h => h
theorem mj_le_tr {as bs ds : List Nat} (h : mj_le as bs) (h1 : mj_le bs ds) : mj_le as ds := fun i a q => h1 i a (h i a q)
theorem mj_le_app {as bs : List Nat} : mj_le as (as ++ bs) := fun i a h => by
  have := (List.getElem?_eq_some_iff.mp h).1
  rw [List.getElem?_append_left this]; exact h
theorem mj_vr_mono {as as1 : List Nat} {sp : Nat → Nat} (h : mj_le as as1) {v w : Value} (hv : mj_vr as sp v w) : mj_vr as1 sp v w := by
  cases v with
  | ref i => obtain ⟨a, h1, h2⟩ := hv; exact ⟨a, h _ _ h1, h2⟩
  | retAddr k => exact hv
  | int x => exact hv
  | long x => exact hv
  | float x => exact hv
  | double x => exact hv
  | null => exact hv
theorem mj_lr_mono {as as1 : List Nat} {sp : Nat → Nat} (h : mj_le as as1) {v w : Nat × Value} (hv : mj_lr as sp v w) : mj_lr as1 sp v w := ⟨hv.1, mj_vr_mono h hv.2⟩
theorem mj_qr_mono {as as1 : List Nat} (h : mj_le as as1) {v w : Option Nat} (hv : mj_qr as v w) : mj_qr as1 v w := by
  cases v with
  | none => exact hv
  | some i => obtain ⟨a, h1, h2⟩ := hv; exact ⟨a, h _ _ h1, h2⟩
theorem mj_ar_mono {as as1 : List Nat} (h : mj_le as as1) {x y : vp_A} (hv : mj_ar as x y) : mj_ar as1 x y := by
  obtain ⟨n, x⟩ := x
  obtain ⟨n1, y⟩ := y
  refine ⟨hv.1, ?_⟩
  have h2 := hv.2
  rcases x with f | f | f | f | f <;> rcases y with g | g | g | g | g <;> first | exact h2 | exact fun j => mj_qr_mono h (h2 j)
theorem mj_er_mono {as as1 : List Nat} {sp : Nat → Nat} {tys tys1 : List (ClassId × FieldType)} (h : mj_le as as1) (ht : ∀ (i : Nat) (q : ClassId × FieldType), tys[i]? = some q → tys1[i]? = some q) {x : mE} {y : va_E} (hv : mj_er as sp tys x y) : mj_er as1 sp tys1 x y := by
  rcases x with ⟨ty, x⟩ | ⟨ci, fs⟩ <;> rcases y with ⟨cA, y⟩ | ⟨cj, gs⟩
  · obtain ⟨⟨t, h1⟩, h2⟩ := hv; exact ⟨⟨t, ht _ _ h1⟩, mj_ar_mono h h2⟩
  · exact hv.elim
  · exact hv.elim
  · exact ⟨hv.1, mj_al_mono (fun a b q => mj_vr_mono h q) hv.2⟩
theorem mj_vr_cat {as : List Nat} {sp : Nat → Nat} {v w : Value} (h : mj_vr as sp v w) : w.category = v.category := by
  cases v with
  | ref i => obtain ⟨a, h1, rfl⟩ := h; rfl
  | retAddr k => obtain ⟨a, rfl, h1⟩ := h; rfl
  | int x => rw [show w = _ from h]
  | long x => rw [show w = _ from h]
  | float x => rw [show w = _ from h]
  | double x => rw [show w = _ from h]
  | null => rw [show w = _ from h]
theorem mj_al_cat {as : List Nat} {sp : Nat → Nat} : ∀ {S S1 : List Value}, mj_al (mj_vr as sp) S S1 → (S1.map fun v => v.category).sum = (S.map fun v => v.category).sum := by
  intro S
  induction S with
  | nil => intro S1 h; rw [mj_al_nil h]
  | cons a l ih =>
    intro S1 h
    obtain ⟨b, m1, rfl, h1, h2⟩ := mj_al_cons h
    simp [mj_vr_cat h1, ih h2]
theorem mj_WR_weaken {D : va_G} {cl : List vw_C} {sp : Nat → Nat} {A B : Nat → Prop} {U : State} {as : List Nat} {M : mH} {H : Heap} (h : mj_WR D cl sp A U as M H) (hB : ∀ a, a ∈ as → B a) : mj_WR D cl sp B U as M H := by
  obtain ⟨ws, tys, h1, h2, h3, h4⟩ := h
  refine ⟨ws, tys, h1, h2, ⟨h3.1, fun k q hk => hB _ ?_⟩, h4⟩
  have hlt : k < M.length := by rw [← h4.2.1]; exact (List.getElem?_eq_some_iff.mp hk).1
  obtain ⟨a, q1, e1, e2, -⟩ := h4.2.2 k _ (List.getElem?_eq_getElem hlt)
  rw [hk] at e2
  cases e2
  exact List.mem_of_getElem? e1
theorem mj_WR_A {D : va_G} {cl : List vw_C} {sp : Nat → Nat} {A : Nat → Prop} {U : State} {as : List Nat} {M : mH} {H : Heap} (h : mj_WR D cl sp A U as M H) {a : Nat} (ha : a ∈ as) : A a := by
  obtain ⟨ws, tys, h1, h2, h3, h4⟩ := h
  obtain ⟨i, hi⟩ := List.getElem?_of_mem ha
  have hlt : i < M.length := by rw [← h4.1]; exact (List.getElem?_eq_some_iff.mp hi).1
  obtain ⟨a1, q1, e1, e2, -⟩ := h4.2.2 i _ (List.getElem?_eq_getElem hlt)
  rw [hi] at e1
  cases e1
  exact h3.2 i _ e2
theorem mj_WR_moved {D : va_G} {cl : List vw_C} {sp : Nat → Nat} {A : Nat → Prop} {u U : State} {as : List Nat} {M : mH} {H : Heap} (hvm : u.vm.Alike U.vm) (h : mj_WR D cl sp A u as M H) : mj_WR D cl sp A U as M H := by
  obtain ⟨ws, tys, h1, h2, h3, h4⟩ := h
  exact ⟨ws, tys, va_K.moved hvm h1, h2, h3, h4⟩
end MJ
