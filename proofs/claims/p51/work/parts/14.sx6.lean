section SX6
def sone (dv : Nat → sV → sV → Option Nat) (slen : Nat → Option sV) (mul : Nat → Option (List Value × (Nat → List sE) × Nat × Nat)) (maxL : Nat) (i : Instr) (len : Nat) (inf : sI) (G : sG) (pc : Nat) (L : List (Nat × sV)) (S : List sV) (M : List sE) : Option (List sT) :=
  match sload i len with
  | some xt => match sget L xt.1 with
    | some v => if svty xt.2 v = true then some [((G, pc + len, L, v :: S, M), 0, 0)] else none
    | none => none
  | none =>
  match spush i len with
  | some v => some [((G, pc + len, L, .inl v :: S, M), 0, 0)]
  | none =>
  match sstore i len with
  | some xt => match S with
    | v :: S => if svty xt.2 v = true ∧ (xt.1 + 1 < maxL ∨ (xt.1 < maxL ∧ (xt.2 == 1 || xt.2 == 3) = false)) then some [((G, pc + len, sput xt.2 xt.1 v L, S, M), 0, 0)] else none
    | [] => none
  | none =>
  match sbo i with
  | some op => if len = 1 then (match S with
    | b :: a :: S => match sbinA dv G op a b with
      | some l => some (l.map (fun q => ((q.1, pc + 1, L, q.2 :: S, M), 0, 0)))
      | none => none
    | _ => none) else none
  | none =>
  match sstA dv maxL i len G pc L S M with
  | some r => some r
  | none => sstH slen mul i len inf G pc L S M
def sret (i : Instr) (len : Nat) (rt : Option FieldType) (S : List sV) : Option (Option sV) := match i, len, S, rt with
  | .ireturn, 1, [v], some ty => if snar ty v = true ∧ sint v = true then some (some v) else none
  | .lreturn, 1, [v], some .long => if svty 1 v = true then some (some v) else none
  | .freturn, 1, [v], some .float => if svty 2 v = true then some (some v) else none
  | .dreturn, 1, [v], some .double => if svty 3 v = true then some (some v) else none
  | .areturn, 1, [v], some (.object _) => if svty 4 v = true then some (some v) else none
  | .areturn, 1, [v], some (.array _) => if svty 4 v = true then some (some v) else none
  | .return_, 1, [], none => some none
  | _, _, _, _ => none
def sinv (i : Instr) (len : Nat) : Bool := match i, len with
  | .invokestatic _, 3 => true
  | .invokevirtual _, 3 => true
  | .invokespecial _, 3 => true
  | .invokeinterface _ _, 5 => true
  | _, _ => false
def sjoin : List (Option sR) → Option sR
  | [] => some ([], 0, 0)
  | none :: _ => none
  | some r :: l => match sjoin l with
    | none => none
    | some q => some (r.1 ++ q.1, max r.2.1 q.2.1, max r.2.2 q.2.2)
theorem sjoin_ok : ∀ {l : List (Option sR)} {q : sR}, sjoin l = some q → ∀ o, o ∈ l → ∃ r, o = some r ∧ (∀ f, f ∈ r.1 → f ∈ q.1) ∧ r.2.1 ≤ q.2.1 ∧ r.2.2 ≤ q.2.2 := by
  intro l
  induction l with
  | nil => intro q _ o ho; cases ho
  | cons o0 l ih =>
    intro q h o ho
    cases o0 with
    | none => cases h
    | some r =>
      unfold sjoin at h
      split at h
      · cases h
      · rename_i q1 h1
        cases h
        rcases List.mem_cons.mp ho with rfl | ho
        · exact ⟨r, rfl, fun f hf => List.mem_append_left _ hf, Nat.le_max_left _ _, Nat.le_max_left _ _⟩
        · obtain ⟨r1, e, k1, k2, k3⟩ := ih h1 o ho
          exact ⟨r1, e, fun f hf => List.mem_append_right _ (k1 f hf), Nat.le_trans k2 (Nat.le_max_right _ _), Nat.le_trans k3 (Nat.le_max_right _ _)⟩
def sadd (a b : Nat) (o : Option sR) : Option sR := match o with
  | none => none
  | some r => some (r.1, r.2.1 + a, r.2.2 + b)
def sexc (lf : sF) : Bool := match lf.2.1 with | .inl _ => false | .inr _ => true
def scont (rec : Nat → Nat → sC → Option sR) (hnd : Nat → Nat → Nat → Option (Option Nat)) (d m pc len : Nat) (L : List (Nat × sV)) (S : List sV) (lf : sF) : Option sR := match lf.2.1 with
  | .inl v => rec d m (lf.1, pc + len, L, v.toList ++ S, lf.2.2)
  | .inr E => match hnd m pc E with
    | some (some h) => rec d m (lf.1, h, L, [.inl (.retAddr 0)], lf.2.2)
    | some none => some ([(lf.1, .inr E, lf.2.2)], 0, 0)
    | none => none
/-- the receiver, as the kind of call asks -/
def srcv (t rc : Nat) (M : List sE) (a : List sV) : Bool := match t with
  | 1 => true
  | 4 => true
  | 3 => match a with
    | .inl (.ref _) :: _ => true
    | _ => false
  | 2 => match a with
    | r :: _ => match sobj M r with
      | some q => decide (q.2.1 = rc)
      | none => false
    | _ => false
  | 5 => match a with
    | r :: _ => match sobj M r with
      | some q => decide (q.2.1 = rc)
      | none => false
    | _ => false
  | _ => false
def snt (t : Nat) : Bool := t == 3 || t == 4 || t == 5
def scal (rec : Nat → Nat → sC → Option sR) (mis : Nat → MI) (hk : Nat → sG → List sV → List sE → Option sR) (hnd : Nat → Nat → Nat → Option (Option Nat)) (d m len : Nat) (inf : sI) (G : sG) (pc : Nat) (L : List (Nat × sV)) (S : List sV) (M : List sE) : Option sR :=
  if inf.1 = 6 then (match S with
    | .inl (.ref _) :: S => if (S.map scat).sum ≤ 900 ∧ len = 3 then rec d m (G, pc + 3, L, S, M) else none
    | _ => none)
  else match d with
    | 0 => none
    | d1 + 1 =>
      if inf.2.2.1 ≤ S.length ∧ srcv inf.1 inf.2.2.2.1 M (S.take inf.2.2.1).reverse = true ∧ ((S.drop inf.2.2.1).map scat).sum ≤ 8 ∧ swid (S.take inf.2.2.1).reverse ≤ (mis inf.2.1).2.2.1 ∧ (mis inf.2.1).2.2.1 ≤ 150 then
        match (match hk inf.2.1 G (S.take inf.2.2.1).reverse M with
          | some r => some r
          | none => rec d1 inf.2.1 (G, 0, sargs 0 (S.take inf.2.2.1).reverse, [], M)) with
        | none => none
        | some r => if snt inf.1 = true ∧ r.1.any sexc = true then none else match sjoin (r.1.map (scont rec hnd (d1 + 1) m pc len L (S.drop inf.2.2.1))) with
          | none => none
          | some q => some (q.1, r.2.1 + q.2.1, r.2.2 + q.2.2)
      else none
def sthr (i : Instr) (inf : sI) (S : List sV) : Bool := match i with
  | .new _ => decide (inf.1 = 2) && decide (inf.2.2.1 ≤ 40) && decide ((S.map scat).sum + inf.2.2.2.1 ≤ 1000)
  | _ => false
def sxS (rec : Nat → Nat → sC → Option sR) (mis : Nat → MI) (row : Nat → Nat → Option (Instr × Nat × sI)) (hk : Nat → sG → List sV → List sE → Option sR) (hnd : Nat → Nat → Nat → Option (Option Nat))
    (dv : Nat → sV → sV → Option Nat) (slen : Nat → Option sV) (mul : Nat → Nat → Option (List Value × (Nat → List sE) × Nat × Nat)) (d m : Nat) (c : sC) : Option sR :=
  match row m c.2.1 with
  | none => none
  | some w =>
    match sone dv slen (mul m) (mis m).2.2.1 w.1 w.2.1 w.2.2 c.1 c.2.1 c.2.2.1 c.2.2.2.1 c.2.2.2.2 with
    | some alts => sjoin (alts.map (fun t => sadd t.2.1 t.2.2 (rec d m t.1)))
    | none =>
    match sret w.1 w.2.1 (mis m).2.2.2.1 c.2.2.2.1 with
    | some v => some ([(c.1, .inl v, c.2.2.2.2)], 0, 0)
    | none => if sinv w.1 w.2.1 then scal rec mis hk hnd d m w.2.1 w.2.2 c.1 c.2.1 c.2.2.1 c.2.2.2.1 c.2.2.2.2
      else if sthr w.1 w.2.2 c.2.2.2.1 then some ([(c.1, .inr w.2.2.2.1, c.2.2.2.2)], 1, 6)
      else none
def sx (mis : Nat → MI) (row : Nat → Nat → Option (Instr × Nat × sI)) (hk : Nat → sG → List sV → List sE → Option sR) (hnd : Nat → Nat → Nat → Option (Option Nat))
    (dv : Nat → sV → sV → Option Nat) (slen : Nat → Option sV) (mul : Nat → Nat → Option (List Value × (Nat → List sE) × Nat × Nat)) : Nat → Nat → Nat → sC → Option sR
  | 0 => fun _ _ _ => none
  | n + 1 => sxS (sx mis row hk hnd dv slen mul n) mis row hk hnd dv slen mul
-- ===== what the sites give =====
def kObj (TT : List Cond) (cl : List vw_C) (X : XT) (mi : MI) (pc : Nat) : Prop := ∀ (fr lo : Nat) (P : Option Value → mH → Prop) (PX : String → mH → Prop) (kc ks : Nat) (L : List (Nat × Value)) (S : List Value) (M : mH) (i : Nat),
  1 ≤ fr → (S.map fun v => v.category).sum + 12 ≤ lo → LX TT cl X mi fr lo P PX kc ks (pc + 3) L S M → LX TT cl X mi fr lo P PX kc ks pc L (.ref i :: S) M
def kThr (TT : List Cond) (cl : List vw_C) (X : XT) (mi : MI) (pc : Nat) (E : String) (kf kl : Nat) : Prop := ∀ (fr lo : Nat) (P : Option Value → mH → Prop) (PX : String → mH → Prop) (kc ks : Nat) (L : List (Nat × Value)) (S : List Value) (M : mH),
  kf ≤ fr → (S.map fun v => v.category).sum + kl ≤ lo → PX E M → LX TT cl X mi fr lo P PX (kc + 1) (ks + 6) pc L S M
def kCall (TT : List Cond) (cl : List vw_C) (X : XT) (mi : MI) (pc len : Nat) (ci : MI) (t n rc : Nat) : Prop := ∀ (fr lo fr1 lo1 : Nat) (P : Option Value → mH → Prop) (PX : String → mH → Prop) (P1 : Option Value → mH → Prop) (PX1 : String → mH → Prop) (kc ks kc1 ks1 : Nat) (L : List (Nat × Value)) (S : List Value) (M : mH) (a : List Value),
  a.length = n → ((t = 2 ∨ t = 5) → ∃ (i : Nat) (fs : List Value) (a1 : List Value), a = .ref i :: a1 ∧ M[i]? = some (.inr (rc, fs))) → (t = 3 → ∃ (i : Nat) (a1 : List Value), a = .ref i :: a1) → (snt t = true → ∀ E M1, ¬ PX1 E M1) →
  EV TT cl X ci fr1 lo1 kc1 ks1 a M P1 PX1 → fr1 + 1 ≤ fr ∧ 8 + (ci.2.2.1 + 11) + lo1 ≤ lo → (S.map fun v => v.category).sum ≤ 8 →
  (∀ (E : String) (M1 : mH), PX1 E M1 → LT TT cl X mi fr lo P PX kc ks pc L E M1) → (∀ (v : Option Value) (M1 : mH), P1 v M1 → LX TT cl X mi fr lo P PX kc ks (pc + len) L (v.toList ++ S) M1) → LX TT cl X mi fr lo P PX (kc1 + kc) (ks1 + ks) pc L (a.reverse ++ S) M
/-- a row of a method: the instruction, and what its site gives -/
def sOK (TT : List Cond) (cl : List vw_C) (X : XT) (mis : Nat → MI) (en : Nat → String) (mul : Nat → Nat → Option (List Value × (Nat → List sE) × Nat × Nat)) (m pc : Nat) (w : Instr × Nat × sI) : Prop :=
  decode (mis m).2.1 pc = .ok (w.1, w.2.1) ∧ sOKH TT cl X (mul m) (mis m) pc w.1 w.2.2 ∧
  (sinv w.1 w.2.1 = true → (w.2.2.1 = 6 → kObj TT cl X (mis m) pc) ∧ (¬ w.2.2.1 = 6 → kCall TT cl X (mis m) pc w.2.1 (mis w.2.2.2.1) w.2.2.1 w.2.2.2.2.1 w.2.2.2.2.2.1)) ∧
  (∀ k, w.1 = .new k → w.2.2.1 = 2 → kThr TT cl X (mis m) pc (en w.2.2.2.1) w.2.2.2.2.1 w.2.2.2.2.2.1)
def sHnd (TT : List Cond) (cl : List vw_C) (X : XT) (mis : Nat → MI) (en : Nat → String) (hnd : Nat → Nat → Nat → Option (Option Nat)) : Prop := ∀ (m pc E : Nat) (o : Option Nat), hnd m pc E = some o →
  ∀ (fr lo : Nat) (P : Option Value → mH → Prop) (PX : String → mH → Prop) (kc ks : Nat) (L : List (Nat × Value)) (M : mH), match o with
  | some h => LX TT cl X (mis m) fr lo P PX kc ks h L [.retAddr 0] M → LT TT cl X (mis m) fr lo P PX kc ks pc L (en E) M
  | none => PX (en E) M → LT TT cl X (mis m) fr lo P PX kc ks pc L (en E) M
def slf (ρ : Nat → Int32) (en : Nat → String) (P : Option Value → mH → Prop) (PX : String → mH → Prop) (lf : sF) : Prop := match lf.2.1 with
  | .inl v => P (v.map (sd ρ)) (sdM ρ lf.2.2)
  | .inr E => PX (en E) (sdM ρ lf.2.2)
def sHk (TT : List Cond) (cl : List vw_C) (X : XT) (mis : Nat → MI) (en : Nat → String) (ρ : Nat → Int32) (hk : Nat → sG → List sV → List sE → Option sR) : Prop := ∀ (y : Nat) (G : sG) (a : List sV) (M : List sE) (r : sR), hk y G a M = some r → sSat ρ G →
  ∀ (d : Nat) (P : Option Value → mH → Prop) (PX : String → mH → Prop), (∀ lf, lf ∈ r.1 → sSat ρ lf.1 → slf ρ en P PX lf) → EV TT cl X (mis y) (40 + d) (1000 + 200 * d) r.2.1 r.2.2 (sdS ρ a) (sdM ρ M) P PX
def sGood (TT : List Cond) (cl : List vw_C) (X : XT) (mis : Nat → MI) (en : Nat → String) (ρ : Nat → Int32) (rec : Nat → Nat → sC → Option sR) : Prop := ∀ (d m : Nat) (c : sC) (r : sR), rec d m c = some r → sSat ρ c.1 →
  ∀ (P : Option Value → mH → Prop) (PX : String → mH → Prop), (∀ lf, lf ∈ r.1 → sSat ρ lf.1 → slf ρ en P PX lf) →
    LX TT cl X (mis m) (40 + d) (1000 + 200 * d) P PX r.2.1 r.2.2 c.2.1 (sdL ρ c.2.2.1) (sdS ρ c.2.2.2.1) (sdM ρ c.2.2.2.2)
end SX6
