section SX4
def snar (ty : FieldType) (v : sV) : Bool := match v with
  | .inl v => decide (narrow ty v = v)
  | .inr (false, _) => decide (ty = .int)
  | .inr (true, _) => decide (ty = .long)
theorem snar_ok {ρ : Nat → Int32} {ty : FieldType} {v : sV} (h : snar ty v = true) : narrow ty (sd ρ v) = sd ρ v := by
  rcases v with v | ⟨_ | _, k⟩
  · exact of_decide_eq_true h
  · have : ty = .int := of_decide_eq_true h
    subst this; rfl
  · have : ty = .long := of_decide_eq_true h
    subst this; rfl
def sfit (ty : FieldType) (v : sV) : Bool := match v with
  | .inl v => mj_fits ty v
  | .inr (false, _) => decide (ty = .int)
  | .inr (true, _) => decide (ty = .long)
theorem sfit_ok {ρ : Nat → Int32} {ty : FieldType} {v : sV} (h : sfit ty v = true) : mj_fits ty (sd ρ v) = true := by
  rcases v with v | ⟨_ | _, k⟩
  · exact h
  · have : ty = .int := of_decide_eq_true h
    subst this; rfl
  · have : ty = .long := of_decide_eq_true h
    subst this; rfl
-- ===== what a site gives =====
def kPush (TT : List Cond) (cl : List vw_C) (X : XT) (mi : MI) (pc len : Nat) (v : Value) : Prop := ∀ (fr lo : Nat) (P : Option Value → mH → Prop) (PX : String → mH → Prop) (kc ks : Nat) (L : List (Nat × Value)) (S : List Value) (M : mH),
  LX TT cl X mi fr lo P PX kc ks (pc + len) L (v :: S) M → LX TT cl X mi fr lo P PX kc ks pc L S M
def kGet (TT : List Cond) (cl : List vw_C) (X : XT) (mi : MI) (pc ci k : Nat) : Prop := ∀ (fr lo : Nat) (P : Option Value → mH → Prop) (PX : String → mH → Prop) (kc ks : Nat) (L : List (Nat × Value)) (S : List Value) (M : mH) (i : Nat) (fs : List Value) (v : Value),
  M[i]? = some (.inr (ci, fs)) → fs[k]? = some v → LX TT cl X mi fr lo P PX kc ks (pc + 3) L (v :: S) M → LX TT cl X mi fr lo P PX kc ks pc L (.ref i :: S) M
def kPut (TT : List Cond) (cl : List vw_C) (X : XT) (mi : MI) (pc ci k : Nat) (ty : FieldType) : Prop := ∀ (fr lo : Nat) (P : Option Value → mH → Prop) (PX : String → mH → Prop) (kc ks : Nat) (L : List (Nat × Value)) (S : List Value) (M : mH) (i : Nat) (fs : List Value) (v : Value),
  M[i]? = some (.inr (ci, fs)) → k < fs.length → narrow ty v = v → mj_fits ty v = true → LX TT cl X mi fr lo P PX kc ks (pc + 3) L S (M.set i (.inr (ci, fs.set k v))) → LX TT cl X mi fr lo P PX kc ks pc L (v :: .ref i :: S) M
def kNew (TT : List Cond) (cl : List vw_C) (X : XT) (mi : MI) (pc ci N : Nat) (fs : List Value) : Prop := ∀ (fr lo : Nat) (P : Option Value → mH → Prop) (PX : String → mH → Prop) (kc ks : Nat) (L : List (Nat × Value)) (S : List Value) (M : mH),
  LX TT cl X mi fr lo P PX kc ks (pc + 3) L (.ref M.length :: S) (M ++ [.inr (ci, fs)]) → LX TT cl X mi fr lo P PX (kc + 1) (ks + N) pc L S M
def kAnew (TT : List Cond) (cl : List vw_C) (X : XT) (mi : MI) (pc : Nat) (ty : FieldType) : Prop := ∀ (fr lo : Nat) (P : Option Value → mH → Prop) (PX : String → mH → Prop) (kc ks : Nat) (L : List (Nat × Value)) (S : List Value) (M : mH) (n : Int32),
  ¬ n < 0 → n.toNatClampNeg ≤ 67108864 → LX TT cl X mi fr lo P PX kc ks (pc + 3) L (.ref M.length :: S) (M ++ [.inl (ty, (n.toNatClampNeg, .inr (.inr (.inr (.inr (fun _ => none))))))]) → LX TT cl X mi fr lo P PX (kc + 1) (ks + n.toNatClampNeg) pc L (.int n :: S) M
def kMul (TT : List Cond) (cl : List vw_C) (X : XT) (mi : MI) (pc : Nat) (vs : List Value) (nw : Nat → List sE) (cc ss : Nat) : Prop := ∀ (ρ : Nat → Int32) (fr lo : Nat) (P : Option Value → mH → Prop) (PX : String → mH → Prop) (kc ks : Nat) (L : List (Nat × Value)) (S : List Value) (M : mH),
  LX TT cl X mi fr lo P PX kc ks (pc + 4) L (.ref M.length :: S) (M ++ sdM ρ (nw M.length)) → LX TT cl X mi fr lo P PX (kc + cc) (ks + ss) pc L (vs ++ S) M
def kCast (TT : List Cond) (cl : List vw_C) (X : XT) (mi : MI) (pc ci : Nat) : Prop := ∀ (fr lo : Nat) (P : Option Value → mH → Prop) (PX : String → mH → Prop) (kc ks : Nat) (L : List (Nat × Value)) (S : List Value) (M : mH) (i : Nat) (fs : List Value),
  M[i]? = some (.inr (ci, fs)) → LX TT cl X mi fr lo P PX kc ks (pc + 3) L (.ref i :: S) M → LX TT cl X mi fr lo P PX kc ks pc L (.ref i :: S) M
def kAst (TT : List Cond) (cl : List vw_C) (X : XT) (mi : MI) (pc ci : Nat) (ty : FieldType) : Prop := ∀ (fr lo : Nat) (P : Option Value → mH → Prop) (PX : String → mH → Prop) (kc ks : Nat) (L : List (Nat × Value)) (S : List Value) (M : mH) (i k n : Nat) (j : Int32) (f : Nat → Option Nat) (fs : List Value),
  M[i]? = some (.inl (ty, (n, .inr (.inr (.inr (.inr f)))))) → M[k]? = some (.inr (ci, fs)) → vp_in j n →
    LX TT cl X mi fr lo P PX kc ks (pc + 1) L S (M.set i (.inl (ty, (n, .inr (.inr (.inr (.inr (va_up f j.toNatClampNeg (some k)))))))))  → LX TT cl X mi fr lo P PX kc ks pc L (.ref k :: .int j :: .ref i :: S) M
def kNw (TT : List Cond) : Prop := Cond.arrayClass .int ∈ TT ∧ Cond.arrayClass .boolean ∈ TT ∧ Cond.arrayClass .char ∈ TT ∧ Cond.arrayClass .long ∈ TT ∧ Cond.arrayClass .double ∈ TT
def kLen (TT : List Cond) (cl : List vw_C) (X : XT) (ρ : Nat → Int32) (slen : Nat → Option sV) : Prop := ∀ (k : Nat) (v : sV), slen k = some v → ∀ (mi : MI) (fr lo : Nat) (P : Option Value → mH → Prop) (PX : String → mH → Prop) (kc ks pc : Nat) (L : List (Nat × Value)) (S : List Value) (M : mH), decode mi.2.1 pc = .ok (.arraylength, 1) →
  LX TT cl X mi fr lo P PX kc ks (pc + 1) L (sd ρ v :: S) M → LX TT cl X mi fr lo P PX kc ks pc L (.retAddr k :: S) M
/-- the known reference 1 is the script: its length is the symbol 8, its ints are the symbols 0 to 5 -/
def kScr (X : XT) (ρ : Nat → Int32) : Prop := ∃ (L9 : Nat) (xs : Nat → Int32), mj_XI X 1 L9 xs ∧ L9 ≤ 6 ∧ (ρ 8).toInt = (L9 : Int) ∧ ∀ j : Nat, j < 6 → ρ j = xs j
theorem isReference_ok {ty : FieldType} (h : ty.isReference = true) : (∃ n, ty = .object n) ∨ ∃ t, ty = .array t := by
  cases ty <;> first | (cases h; done) | exact Or.inl ⟨_, rfl⟩ | exact Or.inr ⟨_, rfl⟩
variable {TT : List Cond} {cl : List vw_C} {X : XT} {mi : MI} {fr lo : Nat} {P : Option Value → mH → Prop} {PX : String → mH → Prop}
/-- an element of an array of references, of arrays too -/
theorem lx_aald {kc ks pc : Nat} {L : List (Nat × Value)} {S : List Value} {M : mH} {i n : Nat} {j : Int32} {ty : FieldType} {f : Nat → Option Nat} (hty : ty.isReference = true) (d : decode mi.2.1 pc = .ok (.aaload, 1)) (hM : M[i]? = some (.inl (ty, n, .inr (.inr (.inr (.inr f)))))) (hin : vp_in j n)
    (kk : LX TT cl X mi fr lo P PX kc ks (pc + 1) L (va_rf (f j.toNatClampNeg) :: S) M) : LX TT cl X mi fr lo P PX kc ks pc L (.int j :: .ref i :: S) M := by
  intro p l e R s m args below meth c Qc XC free D sp A as0 F kq kx as L1 S1 H locs cells slots ls h0 hW hS hl hL hSt hc hs
  have h9 := mj_al_cons hSt
  clear hSt
  obtain ⟨_, S1, rfl, rfl, hSt⟩ := h9
  have h9 := mj_al_cons hSt
  clear hSt
  obtain ⟨_, S1, rfl, ⟨a, ha, rfl⟩, hSt⟩ := h9
  have hW0 := hW
  obtain ⟨ws, tys, hK, hP, hD, hr⟩ := hW
  obtain ⟨cA, t0, y, h1, h2, h3⟩ := mj_arr hr ha hM
  obtain ⟨g, rfl, h4⟩ := mj_ar_q h3
  have hlt : j.toNatClampNeg < n := Nat.not_le.mp fun q => hin (Or.inr q)
  exact W.aald (v := va_rf (g j.toNatClampNeg)) (ty := ty) F.1 F.2.1 (hP i _ h1) ((hK.2 t0 _ h2).1 n (fun j => va_rf (g j))) hty (fun q => by cases q) (by show ¬ (j < 0 ∨ (arrV _ _ _).slots.size ≤ _); rw [arrV_size]; exact hin) (by show (arrV _ _ _).slots[_]? = _; rw [arrV_read _ _ hlt]) rfl rfl d
    (kk p l e R s m args below meth c Qc XC free D sp A as0 F kq kx as L1 _ H locs cells slots ls h0 hW0 hS hl hL ⟨mj_qr_rf (h4 _), hSt⟩ hc hs)
def sarr (M : List sE) (r : sV) : Option (Nat × FieldType × Nat × Nat × List (Nat × sV)) := match r with
  | .inl (.ref i) => match M[i]? with
    | some (.inr (ty, n, k, us)) => some (i, ty, n, k, us)
    | _ => none
  | _ => none
theorem sarr_ok {M : List sE} {r : sV} {q : Nat × FieldType × Nat × Nat × List (Nat × sV)} (h : sarr M r = some q) : r = .inl (.ref q.1) ∧ M[q.1]? = some (.inr q.2) := by
  unfold sarr at h
  split at h
  · split at h
    · rename_i hk
      cases h
      exact ⟨rfl, hk⟩
    · cases h
  · cases h
def sobj (M : List sE) (r : sV) : Option (Nat × Nat × List sV) := match r with
  | .inl (.ref i) => match M[i]? with
    | some (.inl (ci, fs)) => some (i, ci, fs)
    | _ => none
  | _ => none
theorem sobj_ok {M : List sE} {r : sV} {q : Nat × Nat × List sV} (h : sobj M r = some q) : r = .inl (.ref q.1) ∧ M[q.1]? = some (.inl q.2) := by
  unfold sobj at h
  split at h
  · split at h
    · rename_i hk
      cases h
      exact ⟨rfl, hk⟩
    · cases h
  · cases h
def svin (x : Int32) (n : Nat) : Bool := decide (¬ (x < 0 ∨ n ≤ x.toNatClampNeg))
def skn (t : ClassFile.ArrayType) : Option (FieldType × Nat) := match t with
  | .int => some (.int, 0)
  | .boolean => some (.boolean, 0)
  | .char => some (.char, 0)
  | .long => some (.long, 1)
  | .double => some (.double, 2)
  | _ => none
/-- the instructions of the heap -/
def sstH (slen : Nat → Option sV) (mul : Nat → Option (List Value × (Nat → List sE) × Nat × Nat)) (i : Instr) (len : Nat) (inf : sI) (G : sG) (pc : Nat) (L : List (Nat × sV)) (S : List sV) (M : List sE) : Option (List sT) := match i, len, S with
  | .getfield _, 3, r :: S => match sobj M r with
    | some q => if q.2.1 = inf.2.1 then (match q.2.2[inf.2.2.1]? with
      | some v => some [((G, pc + 3, L, v :: S, M), 0, 0)]
      | none => none) else none
    | none => none
  | .putfield _, 3, v :: r :: S => match sobj M r with
    | some q => if q.2.1 = inf.2.1 ∧ inf.2.2.1 < q.2.2.length ∧ snar inf.2.2.2.2.1 v = true ∧ sfit inf.2.2.2.2.1 v = true then some [((G, pc + 3, L, S, M.set q.1 (.inl (q.2.1, q.2.2.set inf.2.2.1 v))), 0, 0)] else none
    | none => none
  | .new _, 3, S => if inf.1 = 1 then some [((G, pc + 3, L, .inl (.ref M.length) :: S, M ++ [.inl (inf.2.1, inf.2.2.2.2.2.map .inl)]), 1, inf.2.2.1)] else none
  | .checkcast _, 3, r :: S => match sobj M r with
    | some q => if q.2.1 = inf.2.1 then some [((G, pc + 3, L, r :: S, M), 0, 0)] else none
    | none => none
  | .anewarray _, 3, n :: S => match n with
    | .inl (.int x) => if ¬ x < 0 ∧ x.toNatClampNeg ≤ 67108864 then some [((G, pc + 3, L, .inl (.ref M.length) :: S, M ++ [.inr (inf.2.2.2.2.1, x.toNatClampNeg, 3, [])]), 1, x.toNatClampNeg)] else none
    | _ => none
  | .newarray t, 2, n :: S => match n, skn t with
    | .inl (.int x), some q => if ¬ x < 0 ∧ x.toNatClampNeg ≤ 67108864 then some [((G, pc + 2, L, .inl (.ref M.length) :: S, M ++ [.inr (q.1, x.toNatClampNeg, q.2, [])]), 1, x.toNatClampNeg)] else none
    | _, _ => none
  | .multianewarray _ _, 4, S => match mul pc with
    | some w => if S.take w.1.length = w.1.map .inl then some [((G, pc + 4, L, .inl (.ref M.length) :: S.drop w.1.length, M ++ w.2.1 M.length), w.2.2.1, w.2.2.2)] else none
    | none => none
  | .arraylength, 1, r :: S => match r with
    | .inl (.retAddr k) => match slen k with
      | some v => some [((G, pc + 1, L, v :: S, M), 0, 0)]
      | none => none
    | r => match sarr M r with
      | some q => some [((G, pc + 1, L, .inl (.int (Int32.ofNat q.2.2.1)) :: S, M), 0, 0)]
      | none => none
  | .iaload, 1, j :: r :: S => match j with
    | .inl (.int x) => (match r with
      | .inl (.retAddr 1) => match G[8]? with
        | some b => if ¬ x < 0 ∧ x.toNatClampNeg < 6 ∧ (x.toNatClampNeg : Int) < b.1 then some [((G, pc + 1, L, .inr (false, x.toNatClampNeg) :: S, M), 0, 0)] else none
        | none => none
      | r => match sarr M r with
        | some (_, .int, n, 0, us) => if svin x n = true ∧ sint (slook (.inl (.int 0)) x.toNatClampNeg us) = true then some [((G, pc + 1, L, slook (.inl (.int 0)) x.toNatClampNeg us :: S, M), 0, 0)] else none
        | _ => none)
    | j => match sconc 70 G j with
      | some l => some (l.map (fun q => ((q.2, pc, L, .inl (.int q.1) :: r :: S, M), 0, 0)))
      | none => none
  | .laload, 1, j :: r :: S => match j with
    | .inl (.int x) => (match sarr M r with
      | some (_, .long, n, 1, us) => if svin x n = true ∧ svty 1 (slook (.inl (.long 0)) x.toNatClampNeg us) = true then some [((G, pc + 1, L, slook (.inl (.long 0)) x.toNatClampNeg us :: S, M), 0, 0)] else none
      | _ => none)
    | _ => none
  | .aaload, 1, j :: r :: S => match j with
    | .inl (.int x) => (match sarr M r with
      | some (_, ty, n, 3, us) => (match slook (.inl .null) x.toNatClampNeg us with
        | .inl (.ref w) => if svin x n = true ∧ ty.isReference = true then some [((G, pc + 1, L, .inl (.ref w) :: S, M), 0, 0)] else none
        | .inl .null => if svin x n = true ∧ ty.isReference = true then some [((G, pc + 1, L, .inl .null :: S, M), 0, 0)] else none
        | _ => none)
      | _ => none)
    | j => match sconc 70 G j with
      | some l => some (l.map (fun q => ((q.2, pc, L, .inl (.int q.1) :: r :: S, M), 0, 0)))
      | none => none
  | .iastore, 1, v :: j :: r :: S => match j with
    | .inl (.int x) => (match sarr M r with
      | some (i, .int, n, 0, us) => if svin x n = true ∧ sint v = true then some [((G, pc + 1, L, S, M.set i (.inr (.int, n, 0, (x.toNatClampNeg, v) :: us))), 0, 0)] else none
      | _ => none)
    | j => match sconc 70 G j with
      | some l => some (l.map (fun q => ((q.2, pc, L, v :: .inl (.int q.1) :: r :: S, M), 0, 0)))
      | none => none
  | .lastore, 1, v :: j :: r :: S => match j with
    | .inl (.int x) => (match sarr M r with
      | some (i, .long, n, 1, us) => if svin x n = true ∧ svty 1 v = true then some [((G, pc + 1, L, S, M.set i (.inr (.long, n, 1, (x.toNatClampNeg, v) :: us))), 0, 0)] else none
      | _ => none)
    | _ => none
  | .castore, 1, v :: j :: r :: S => match j, v with
    | .inl (.int x), .inl (.int y) => (match sarr M r with
      | some (i, .char, n, 0, us) => if svin x n = true then some [((G, pc + 1, L, S, M.set i (.inr (.char, n, 0, (x.toNatClampNeg, .inl (.int (vp_nar .char y))) :: us))), 0, 0)] else none
      | _ => none)
    | _, _ => none
  | .aastore, 1, v :: j :: r :: S => match j, sobj M v with
    | .inl (.int x), some o => (match sarr M r with
      | some (i, ty, n, 3, us) => if svin x n = true ∧ o.2.1 = inf.2.1 ∧ ty = inf.2.2.2.2.1 then some [((G, pc + 1, L, S, M.set i (.inr (ty, n, 3, (x.toNatClampNeg, .inl (.ref o.1)) :: us))), 0, 0)] else none
      | _ => none)
    | _, _ => none
  | .if_acmp op off, 3, b :: a :: S => match a, b, stgt pc off with
    | .inl (.retAddr j), .inl (.retAddr k), some t => if j = k ∧ j ≠ 0 ∧ inf.1 = 1 then some [((G, (if op = .eq then t else pc + 3), L, S, M), 0, 0)] else none
    | _, _, _ => none
  | .ldc _, 2, S => match inf.2.2.2.2.2 with | [v] => some [((G, pc + 2, L, .inl v :: S, M), 0, 0)] | _ => none
  | .ldc_w _, 3, S => match inf.2.2.2.2.2 with | [v] => some [((G, pc + 3, L, .inl v :: S, M), 0, 0)] | _ => none
  | .ldc2_w _, 3, S => match inf.2.2.2.2.2 with | [v] => some [((G, pc + 3, L, .inl v :: S, M), 0, 0)] | _ => none
  | .getstatic _, 3, S => match inf.2.2.2.2.2 with | [v] => some [((G, pc + 3, L, .inl v :: S, M), 0, 0)] | _ => none
  | _, _, _ => none
/-- what the site of an instruction of the heap has to give -/
def sOKH (TT : List Cond) (cl : List vw_C) (X : XT) (mul : Nat → Option (List Value × (Nat → List sE) × Nat × Nat)) (mi : MI) (pc : Nat) (i : Instr) (inf : sI) : Prop := match i with
  | .getfield _ => kGet TT cl X mi pc inf.2.1 inf.2.2.1
  | .putfield _ => kPut TT cl X mi pc inf.2.1 inf.2.2.1 inf.2.2.2.2.1
  | .new _ => inf.1 = 1 → kNew TT cl X mi pc inf.2.1 inf.2.2.1 inf.2.2.2.2.2
  | .checkcast _ => kCast TT cl X mi pc inf.2.1
  | .anewarray _ => kAnew TT cl X mi pc inf.2.2.2.2.1
  | .multianewarray _ _ => ∀ w, mul pc = some w → kMul TT cl X mi pc w.1 w.2.1 w.2.2.1 w.2.2.2
  | .aastore => kAst TT cl X mi pc inf.2.1 inf.2.2.2.2.1
  | .ldc _ => ∀ v, inf.2.2.2.2.2 = [v] → kPush TT cl X mi pc 2 v
  | .ldc_w _ => ∀ v, inf.2.2.2.2.2 = [v] → kPush TT cl X mi pc 3 v
  | .ldc2_w _ => ∀ v, inf.2.2.2.2.2 = [v] → kPush TT cl X mi pc 3 v
  | .getstatic _ => ∀ v, inf.2.2.2.2.2 = [v] → kPush TT cl X mi pc 3 v
  | _ => True
theorem lx_acmp_same {kc ks pc k : Nat} {L : List (Nat × Value)} {S : List Value} {M : mH} {op : ClassFile.ACond} {off : Int} {tgt : Nat} (d : decode mi.2.1 pc = .ok (.if_acmp op off, 3)) (ht : (pc : Int) + off = (tgt : Int)) (h0k : ¬ k = 0)
    (kk : LX TT cl X mi fr lo P PX kc ks (if op = .eq then tgt else pc + 3) L S M) : LX TT cl X mi fr lo P PX kc ks pc L (.retAddr k :: .retAddr k :: S) M := by
  intro p l e R s m args below meth c Qc XC free D sp A as0 F kq kx as L1 S1 H locs cells slots ls h0 hW hS hl hL hSt hc hs
  have h9 := mj_al_cons hSt
  clear hSt
  obtain ⟨w, S1, rfl, wr, hSt⟩ := h9
  have h9 := mj_al_cons hSt
  clear hSt
  obtain ⟨w1, S1, rfl, wr1, hSt⟩ := h9
  rw [mj_rk h0k wr, mj_rk h0k wr1]
  have k1 := kk p l e R s m args below meth c Qc XC free D sp A as0 F kq kx as L1 _ H locs cells slots ls h0 hW hS hl hL hSt hc hs
  cases op with
  | eq => exact lv_acmp_eq (rx := some (sp k)) (ry := some (sp k)) F.1 F.2.1 d ht (fun _ => k1) (fun h => absurd rfl h)
  | ne => exact lv_acmp_ne (rx := some (sp k)) (ry := some (sp k)) F.1 F.2.1 d ht (fun h => absurd rfl h) (fun _ => k1)
end SX4
