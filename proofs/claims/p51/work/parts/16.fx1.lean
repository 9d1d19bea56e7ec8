section FX1
/-! the interpreter with symbols once more, for the kernel: each instruction is a small function, what it makes is laid out at once -/
-- ===== laying out =====
def fN {α : Type} (n : Nat) (k : Nat → α) : α := match n with | 0 => k 0 | m + 1 => k (Nat.succ m)
theorem fN_eq {α : Type} {n : Nat} {k : Nat → α} : fN n k = k n := by cases n <;> rfl
def fZ {α : Type} (z : Int) (k : Int → α) : α := match z with | .ofNat n => fN n (fun n => k (.ofNat n)) | .negSucc n => fN n (fun n => k (.negSucc n))
theorem fZ_eq {α : Type} {z : Int} {k : Int → α} : fZ z k = k z := by cases z <;> simp only [fZ, fN_eq]
def fI {α : Type} (x : Int32) (k : Int32 → α) : α := fZ x.toInt (fun z => k (Int32.ofInt z))
theorem fI_eq {α : Type} {x : Int32} {k : Int32 → α} : fI x k = k x := by unfold fI; rw [fZ_eq, Int32.ofInt_toInt]
def fV {α : Type} (v : sV) (k : sV → α) : α := match v with
  | .inl (.int x) => fI x (fun x => k (.inl (.int x)))
  | .inl (.ref x) => fN x (fun x => k (.inl (.ref x)))
  | .inl .null => k (.inl .null)
  | .inl (.long x) => k (.inl (.long x))
  | .inl (.float x) => k (.inl (.float x))
  | .inl (.double x) => k (.inl (.double x))
  | .inl (.retAddr x) => k (.inl (.retAddr x))
  | .inr (b, j) => k (.inr (b, j))
theorem fV_eq {α : Type} {v : sV} {k : sV → α} : fV v k = k v := by
  rcases v with v | ⟨b, j⟩
  · cases v <;> simp only [fV, fI_eq, fN_eq]
  · rfl
def fS {α β : Type} : List α → (List α → β) → β
  | [], k => k []
  | e :: r, k => fS r (fun r1 => k (e :: r1))
theorem fS_eq {α β : Type} : ∀ {l : List α} {k : List α → β}, fS l k = k l := by
  intro l
  induction l with
  | nil => intro k; rfl
  | cons e r ih => intro k; exact ih
def fB {α : Type} (b : sB) (k : sB → α) : α := match b with | (x, y, z) => fZ x (fun x => fZ y (fun y => fS z (fun z => k (x, y, z))))
theorem fB_eq {α : Type} {b : sB} {k : sB → α} : fB b k = k b := by
  obtain ⟨x, y, z⟩ := b
  unfold fB
  dsimp only
  rw [fZ_eq, fZ_eq, fS_eq]
def fG {β : Type} : sG → (sG → β) → β
  | [], k => k []
  | e :: r, k => fB e (fun e1 => fG r (fun r1 => k (e1 :: r1)))
theorem fG_eq {β : Type} : ∀ {l : sG} {k : sG → β}, fG l k = k l := by
  intro l
  induction l with
  | nil => intro k; rfl
  | cons e r ih => intro k; unfold fG; rw [fB_eq, ih]
/-- a local word -/
def getC {β : Type} (x : Nat) (k : sV → Option β) : List (Nat × sV) → Option β
  | [] => none
  | (j, v) :: r => cond (Nat.beq j x) (k v) (getC x k r)
theorem getC_ok {β : Type} {x : Nat} {k : sV → Option β} {b : β} : ∀ {L : List (Nat × sV)}, getC x k L = some b → ∃ v, sget L x = some v ∧ k v = some b := by
  intro L
  induction L with
  | nil => intro h; cases h
  | cons q r ih =>
    intro h
    obtain ⟨j, v⟩ := q
    unfold getC at h
    unfold sget
    cases e : Nat.beq j x with
    | true => rw [e] at h; exact ⟨v, by rw [if_pos (Nat.eq_of_beq_eq_true e)], h⟩
    | false => rw [e] at h; rw [if_neg (Nat.ne_of_beq_eq_false e)]; exact ih h
/-- the first n of a stack, the last one first, and the rest -/
def takeR {β : Type} (k : List sV → List sV → Option β) : Nat → List sV → List sV → Option β
  | 0, acc, S => k acc S
  | _ + 1, _, [] => none
  | n + 1, acc, v :: S => takeR k n (v :: acc) S
theorem takeR_ok {β : Type} {k : List sV → List sV → Option β} {b : β} : ∀ {n : Nat} {acc S : List sV}, takeR k n acc S = some b → n ≤ S.length ∧ k ((S.take n).reverse ++ acc) (S.drop n) = some b := by
  intro n
  induction n with
  | zero => intro acc S h; exact ⟨Nat.zero_le _, by simpa [takeR] using h⟩
  | succ n ih =>
    intro acc S h
    cases S with
    | nil => cases h
    | cons v S =>
      obtain ⟨h1, h2⟩ := ih (show takeR k n (v :: acc) S = some b from h)
      refine ⟨by simp; exact h1, ?_⟩
      simpa [List.take_succ_cons, List.drop_succ_cons] using h2
/-- the locals of a callee -/
def argsC {β : Type} : Nat → List sV → (List (Nat × sV) → β) → β
  | _, [], k => k []
  | i, v :: vs, k => fN (cond (Nat.beq (scat v) 2) (i + 2) (i + 1)) (fun i1 => argsC i1 vs (fun r => k ((i, v) :: r)))
theorem argsC_eq {β : Type} : ∀ {vs : List sV} {i : Nat} {k : List (Nat × sV) → β}, argsC i vs k = k (sargs i vs) := by
  intro vs
  induction vs with
  | nil => intro i k; rfl
  | cons v vs ih =>
    intro i k
    unfold argsC sargs
    rw [fN_eq, ih]
    cases e : Nat.beq (scat v) 2 with
    | true => rw [if_pos (Nat.eq_of_beq_eq_true e)]; rfl
    | false => rw [if_neg (Nat.ne_of_beq_eq_false e)]; rfl
-- ===== results side by side =====
def jn2 (a b : Option sR) : Option sR := match a with
  | none => none
  | some r => match b with
    | none => none
    | some q => some (r.1 ++ q.1, max r.2.1 q.2.1, max r.2.2 q.2.2)
def fJ {α : Type} (f : α → Option sR) : List α → Option sR
  | [] => some ([], 0, 0)
  | [a] => f a
  | a :: r => jn2 (f a) (fJ f r)
theorem fJ_ok {α : Type} {f : α → Option sR} : ∀ {l : List α} {q : sR}, fJ f l = some q → ∀ a, a ∈ l → ∃ r, f a = some r ∧ (∀ lf, lf ∈ r.1 → lf ∈ q.1) ∧ r.2.1 ≤ q.2.1 ∧ r.2.2 ≤ q.2.2 := by
  intro l
  induction l with
  | nil => intro q _ a ha; cases ha
  | cons a0 l ih =>
    intro q h a ha
    cases l with
    | nil =>
      rcases List.mem_cons.mp ha with rfl | ha
      · exact ⟨q, h, fun _ z => z, Nat.le_refl _, Nat.le_refl _⟩
      · cases ha
    | cons a1 l =>
      have h1 : jn2 (f a0) (fJ f (a1 :: l)) = some q := h
      unfold jn2 at h1
      split at h1
      · cases h1
      · rename_i r hr
        split at h1
        · cases h1
        · rename_i q1 hq1
          cases h1
          rcases List.mem_cons.mp ha with rfl | ha
          · exact ⟨r, hr, fun f hf => List.mem_append_left _ hf, Nat.le_max_left _ _, Nat.le_max_left _ _⟩
          · obtain ⟨r1, e, k1, k2, k3⟩ := ih hq1 a ha
            exact ⟨r1, e, fun f hf => List.mem_append_right _ (k1 f hf), Nat.le_trans k2 (Nat.le_max_right _ _), Nat.le_trans k3 (Nat.le_max_right _ _)⟩
def ad2 (a b : Nat) (o : Option sR) : Option sR := match o with
  | none => none
  | some r => some (r.1, r.2.1 + a, r.2.2 + b)
-- ===== the interpreter =====
abbrev RK : Type := Nat → Nat → sG → Nat → List (Nat × sV) → List sV → List sE → Option sR
abbrev Op : Type := RK → Nat → sG → List (Nat × sV) → List sV → List sE → Option sR
noncomputable def fx (row : Nat → Nat → Option Op) (n : Nat) : RK :=
  Nat.rec (motive := fun _ => RK) (fun _ _ _ _ _ _ _ => none) (fun _ ih d m G pc L S M => match row m pc with | none => none | some f => f ih d G L S M) n
variable {TT : List Cond} {cl : List vw_C} {X : XT} {mis : Nat → MI} {en : Nat → String} {ρ : Nat → Int32}
def gd (TT : List Cond) (cl : List vw_C) (X : XT) (mis : Nat → MI) (en : Nat → String) (ρ : Nat → Int32) (m pc d : Nat) (G : sG) (L : List (Nat × sV)) (S : List sV) (M : List sE) (r : sR) : Prop :=
  sSat ρ G → ∀ (P : Option Value → mH → Prop) (PX : String → mH → Prop), (∀ lf, lf ∈ r.1 → sSat ρ lf.1 → slf ρ en P PX lf) →
    LX TT cl X (mis m) (40 + d) (1000 + 200 * d) P PX r.2.1 r.2.2 pc (sdL ρ L) (sdS ρ S) (sdM ρ M)
def rGood (TT : List Cond) (cl : List vw_C) (X : XT) (mis : Nat → MI) (en : Nat → String) (ρ : Nat → Int32) (rec : RK) : Prop := ∀ d m G pc L S M r, rec d m G pc L S M = some r → gd TT cl X mis en ρ m pc d G L S M r
def opOK (TT : List Cond) (cl : List vw_C) (X : XT) (mis : Nat → MI) (en : Nat → String) (ρ : Nat → Int32) (m pc : Nat) (f : Op) : Prop := ∀ rec, rGood TT cl X mis en ρ rec → ∀ d G L S M r, f rec d G L S M = some r → gd TT cl X mis en ρ m pc d G L S M r
theorem fx_ok {row : Nat → Nat → Option Op} (h : ∀ m pc f, row m pc = some f → opOK TT cl X mis en ρ m pc f) : ∀ n : Nat, rGood TT cl X mis en ρ (fx row n) := by
  intro n
  induction n with
  | zero => intro d m G pc L S M r e; cases e
  | succ n ih =>
    intro d m G pc L S M r e
    have e1 : (match row m pc with | none => none | some f => f (fx row n) d G L S M) = some r := e
    split at e1
    · cases e1
    · rename_i f hf
      exact h m pc f hf _ ih _ _ _ _ _ _ e1
theorem gd_of {m pc d : Nat} {G G1 : sG} {L : List (Nat × sV)} {S : List sV} {M : List sE} {r r1 : sR} (hl : ∀ lf, lf ∈ r1.1 → lf ∈ r.1) (h1 : r1.2.1 ≤ r.2.1) (h2 : r1.2.2 ≤ r.2.2) (hs : sSat ρ G1) (h : gd TT cl X mis en ρ m pc d G1 L S M r1) : gd TT cl X mis en ρ m pc d G L S M r := fun _ P PX hall =>
  lx_room h1 h2 (h hs P PX (fun lf z => hall lf (hl lf z)))
end FX1
