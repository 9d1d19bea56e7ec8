section SX1
/-- a value with symbols: a value, or the symbol k as an int, or as a long -/
abbrev sV : Type := Value ⊕ (Bool × Nat)
/-- what is known of a symbol: between, and not one of -/
abbrev sB : Type := Int × Int × List Int
abbrev sG : Type := List sB
/-- a cell with symbols: an object, or an array: type, length, kind of its elements (0 int, 1 long, 2 double, 3 reference), what was stored, the last one first -/
abbrev sE : Type := (Nat × List sV) ⊕ (FieldType × Nat × Nat × List (Nat × sV))
abbrev sC : Type := sG × Nat × List (Nat × sV) × List sV × List sE
abbrev sI : Type := Nat × Nat × Nat × Nat × FieldType × List Value
abbrev sF : Type := sG × (Option sV ⊕ Nat) × List sE
abbrev sR : Type := List sF × Nat × Nat
def sd (ρ : Nat → Int32) (v : sV) : Value := match v with
  | .inl v => v
  | .inr (false, k) => .int (ρ k)
  | .inr (true, k) => .long (ρ k).toInt64
def scat (v : sV) : Nat := match v with
  | .inl v => v.category
  | .inr (false, _) => 1
  | .inr (true, _) => 2
theorem scat_eq {ρ : Nat → Int32} {v : sV} : (sd ρ v).category = scat v := by
  rcases v with v | ⟨_ | _, k⟩ <;> rfl
def sIn (b : sB) (x : Int) : Prop := b.1 ≤ x ∧ x ≤ b.2.1 ∧ ∀ e ∈ b.2.2, x ≠ e
def sSat (ρ : Nat → Int32) (G : sG) : Prop := ∀ (k : Nat) (b : sB), G[k]? = some b → sIn b (ρ k).toInt
theorem sSat_set {ρ : Nat → Int32} {G : sG} {k : Nat} {b : sB} (h : sSat ρ G) (hb : sIn b (ρ k).toInt) : sSat ρ (G.set k b) := by
  intro j c hj
  rw [List.getElem?_set] at hj
  split at hj
  · rename_i e
    subst e
    split at hj
    · cases hj; exact hb
    · cases hj
  · exact h j c hj
/-- an int told, or the few that it may be -/
def sconc (lim : Int) (G : sG) (v : sV) : Option (List (Int32 × sG)) := match v with
  | .inl (.int x) => some [(x, G)]
  | .inr (false, k) => match G[k]? with
    | none => none
    | some b => if b.2.1 - b.1 ≤ lim then some (((List.range (b.2.1 - b.1 + 1).toNat).filter (fun j : Nat => !(b.2.2.contains (b.1 + (j : Int))))).map (fun j : Nat => (Int32.ofInt (b.1 + (j : Int)), G.set k (b.1 + (j : Int), b.1 + (j : Int), [])))) else none
  | _ => none
theorem sconc_ok {ρ : Nat → Int32} {lim : Int} {G : sG} {v : sV} {l : List (Int32 × sG)} (hG : sSat ρ G) (h : sconc lim G v = some l) : ∃ q, q ∈ l ∧ sSat ρ q.2 ∧ sd ρ v = .int q.1 := by
  rcases v with v | ⟨_ | _, k⟩
  · cases v with
    | int x => cases h; exact ⟨_, List.mem_singleton.mpr rfl, hG, rfl⟩
    | long x => cases h
    | float x => cases h
    | double x => cases h
    | null => cases h
    | ref x => cases h
    | retAddr x => cases h
  · unfold sconc at h
    dsimp only at h
    cases hk : G[k]? with
    | none => rw [hk] at h; cases h
    | some b =>
      rw [hk] at h
      dsimp only at h
      split at h
      · cases h
        obtain ⟨h1, h2, h3⟩ := hG k b hk
        have e1 : b.1 + (((ρ k).toInt - b.1).toNat : Int) = (ρ k).toInt := by omega
        refine ⟨((ρ k), G.set k ((ρ k).toInt, (ρ k).toInt, [])), List.mem_map.mpr ⟨((ρ k).toInt - b.1).toNat, List.mem_filter.mpr ⟨List.mem_range.mpr (by omega), ?_⟩, ?_⟩, sSat_set hG ⟨Int.le_refl _, Int.le_refl _, fun e he => by cases he⟩, rfl⟩
        · rw [e1]
          simp only [Bool.not_eq_true', List.contains_eq_mem, decide_eq_false_iff_not]
          exact fun q => h3 _ q rfl
        · rw [e1, Int32.ofInt_toInt]
      · cases h
  · cases h
def scH (op : ClassFile.Cond) (x y : Int) : Bool := match op with
  | .eq => decide (x = y)
  | .ne => !decide (x = y)
  | .lt => decide (x < y)
  | .ge => decide (y ≤ x)
  | .gt => decide (y < x)
  | .le => decide (x ≤ y)
def sneg (op : ClassFile.Cond) : ClassFile.Cond := match op with
  | .eq => .ne | .ne => .eq | .lt => .ge | .ge => .lt | .gt => .le | .le => .gt
def sswp (op : ClassFile.Cond) : ClassFile.Cond := match op with
  | .eq => .eq | .ne => .ne | .lt => .gt | .ge => .le | .gt => .lt | .le => .ge
theorem sneg_eq {op : ClassFile.Cond} {x y : Int} : scH (sneg op) x y = !(scH op x y) := by
  cases op <;> simp only [sneg, scH, Bool.not_not] <;> (rw [Bool.eq_iff_iff]; simp) <;> omega
theorem sswp_eq {op : ClassFile.Cond} {x y : Int} : scH (sswp op) x y = scH op y x := by
  cases op <;> simp [sswp, scH, eq_comm]
def sref (op : ClassFile.Cond) (c : Int) (b : sB) : sB := match op with
  | .eq => (max b.1 c, min b.2.1 c, b.2.2)
  | .ne => (if b.1 = c then b.1 + 1 else b.1, if b.2.1 = c then b.2.1 - 1 else b.2.1, c :: b.2.2)
  | .lt => (b.1, min b.2.1 (c - 1), b.2.2)
  | .ge => (max b.1 c, b.2.1, b.2.2)
  | .gt => (max b.1 (c + 1), b.2.1, b.2.2)
  | .le => (b.1, min b.2.1 c, b.2.2)
theorem sref_ok {op : ClassFile.Cond} {c x : Int} {b : sB} (h : sIn b x) (ho : scH op x c = true) : sIn (sref op c b) x := by
  obtain ⟨h1, h2, h3⟩ := h
  cases op with
  | eq => have : x = c := by simpa [scH] using ho
          refine ⟨?_, ?_, h3⟩ <;> (simp only [sref]; omega)
  | ne => have : ¬ x = c := by simpa [scH] using ho
          refine ⟨?_, ?_, ?_⟩
          · simp only [sref]; split <;> omega
          · simp only [sref]; split <;> omega
          · intro e he
            rcases List.mem_cons.mp he with rfl | he
            · exact this
            · exact h3 e he
  | lt => have : x < c := by simpa [scH] using ho
          refine ⟨?_, ?_, h3⟩ <;> (simp only [sref]; omega)
  | ge => have : c ≤ x := by simpa [scH] using ho
          refine ⟨?_, ?_, h3⟩ <;> (simp only [sref]; omega)
  | gt => have : c < x := by simpa [scH] using ho
          refine ⟨?_, ?_, h3⟩ <;> (simp only [sref]; omega)
  | le => have : x ≤ c := by simpa [scH] using ho
          refine ⟨?_, ?_, h3⟩ <;> (simp only [sref]; omega)
def sfull (b : sB) : Bool := decide (b.1 ≤ b.2.1) && !(decide (b.1 = b.2.1) && b.2.2.contains b.1)
theorem sfull_ok {b : sB} {x : Int} (h : sIn b x) : sfull b = true := by
  obtain ⟨h1, h2, h3⟩ := h
  unfold sfull
  by_cases e : b.1 = b.2.1
  · have e1 : x = b.1 := by omega
    have : ¬ b.1 ∈ b.2.2 := fun q => h3 _ q e1
    simp [e]
    rw [← e]; exact this
  · simp [e]; omega
def scmpV (G : sG) (k : Nat) (b : sB) (op : ClassFile.Cond) (c : Int) : List (Bool × sG) :=
  (if sfull (sref op c b) then [(true, G.set k (sref op c b))] else []) ++ (if sfull (sref (sneg op) c b) then [(false, G.set k (sref (sneg op) c b))] else [])
theorem scmpV_ok {ρ : Nat → Int32} {G : sG} {k : Nat} {b : sB} {op : ClassFile.Cond} {c : Int} (hG : sSat ρ G) (hk : G[k]? = some b) : ∃ q, q ∈ scmpV G k b op c ∧ sSat ρ q.2 ∧ q.1 = scH op (ρ k).toInt c := by
  have h := hG k b hk
  unfold scmpV
  cases ho : scH op (ρ k).toInt c with
  | true =>
    have h1 := sref_ok h ho
    refine ⟨(true, G.set k (sref op c b)), List.mem_append_left _ ?_, sSat_set hG h1, rfl⟩
    rw [if_pos (sfull_ok h1)]; exact List.mem_singleton.mpr rfl
  | false =>
    have h1 := sref_ok (op := sneg op) (c := c) h (by rw [sneg_eq, ho]; rfl)
    refine ⟨(false, G.set k (sref (sneg op) c b)), List.mem_append_right _ ?_, sSat_set hG h1, rfl⟩
    rw [if_pos (sfull_ok h1)]; exact List.mem_singleton.mpr rfl
def scmp (G : sG) (op : ClassFile.Cond) (a b : sV) : Option (List (Bool × sG)) := match a, b with
  | .inl (.int x), .inl (.int y) => some [(scH op x.toInt y.toInt, G)]
  | .inr (false, k), .inl (.int y) => match G[k]? with
    | none => none
    | some b => some (scmpV G k b op y.toInt)
  | .inl (.int x), .inr (false, k) => match G[k]? with
    | none => none
    | some b => some (scmpV G k b (sswp op) x.toInt)
  | _, _ => none
theorem scmp_ok {ρ : Nat → Int32} {G : sG} {op : ClassFile.Cond} {a b : sV} {l : List (Bool × sG)} (hG : sSat ρ G) (h : scmp G op a b = some l) :
    ∃ x y, sd ρ a = .int x ∧ sd ρ b = .int y ∧ ∃ q, q ∈ l ∧ sSat ρ q.2 ∧ q.1 = scH op x.toInt y.toInt := by
  unfold scmp at h
  split at h
  · cases h; exact ⟨_, _, rfl, rfl, _, List.mem_singleton.mpr rfl, hG, rfl⟩
  · split at h
    · cases h
    · rename_i b0 hk
      cases h
      obtain ⟨q, h1, h2, h3⟩ := scmpV_ok (op := op) hG hk
      exact ⟨_, _, rfl, rfl, q, h1, h2, h3⟩
  · split at h
    · cases h
    · rename_i b0 hk
      cases h
      obtain ⟨q, h1, h2, h3⟩ := scmpV_ok (op := sswp op) hG hk
      exact ⟨_, _, rfl, rfl, q, h1, h2, by rw [h3, sswp_eq]⟩
  · cases h
/-- the ints of two words -/
def sbin (op : Nat) (x y : Int32) : Int32 := match op with
  | 0 => x + y
  | 1 => x - y
  | 2 => x * y
  | 3 => x &&& y
  | 4 => x ||| y
  | 5 => x ^^^ y
  | 6 => x <<< (y &&& 31)
  | 7 => x >>> (y &&& 31)
  | 8 => (x.toUInt32 >>> (y.toUInt32 &&& Int32.toUInt32 31)).toInt32
  | _ => (x.toUInt32 % 65536).toInt32
def sint (v : sV) : Bool := match v with
  | .inl (.int _) => true
  | .inr (false, _) => true
  | _ => false
theorem sint_ok {ρ : Nat → Int32} {v : sV} (h : sint v = true) : ∃ x, sd ρ v = .int x := by
  rcases v with v | ⟨_ | _, k⟩
  · cases v <;> first | exact ⟨_, rfl⟩ | cases h
  · exact ⟨_, rfl⟩
  · cases h
def slit0 (v : sV) : Bool := match v with
  | .inl (.int x) => decide (x = 0)
  | _ => false
theorem slit0_ok {ρ : Nat → Int32} {v : sV} (h : slit0 v = true) : sd ρ v = .int 0 := by
  rcases v with v | ⟨_ | _, k⟩
  · cases v <;> first | (cases h; done) | skip
    simp [slit0] at h; rw [h]; rfl
  · cases h
  · cases h
def sDV (ρ : Nat → Int32) (dv : Nat → sV → sV → Option Nat) : Prop := ∀ (op : Nat) (a b : sV) (k : Nat), dv op a b = some k → ∃ x y, sd ρ a = .int x ∧ sd ρ b = .int y ∧ ρ k = sbin op x y
/-- two words of ints: what comes, by cases -/
def sbinC (lim : Int) (G : sG) (op : Nat) (a b : sV) : Option (List (sG × sV)) := match sconc lim G a with
  | none => none
  | some l => (l.foldr (fun q acc => match acc, sconc lim q.2 b with
    | some r, some l2 => some (l2.map (fun q2 => (q2.2, (.inl (.int (sbin op q.1 q2.1)) : sV))) ++ r)
    | _, _ => none) (some []))
theorem sbinC_aux {ρ : Nat → Int32} {lim : Int} {op : Nat} {a b : sV} {x : Int32} (hx : sd ρ a = .int x) : ∀ {l : List (Int32 × sG)} {r : List (sG × sV)},
    l.foldr (fun q acc => match acc, sconc lim q.2 b with
    | some r, some l2 => some (l2.map (fun q2 => (q2.2, (.inl (.int (sbin op q.1 q2.1)) : sV))) ++ r)
    | _, _ => none) (some []) = some r → ∀ q, q ∈ l → sSat ρ q.2 → q.1 = x → ∃ u y, u ∈ r ∧ sSat ρ u.1 ∧ sd ρ b = .int y ∧ sd ρ u.2 = .int (sbin op x y) := by
  intro l
  induction l with
  | nil => intro r h q hq; cases hq
  | cons q0 l ih =>
    intro r h q hq hs he
    rw [List.foldr_cons] at h
    split at h
    · rename_i r1 l2 h1 h2
      cases h
      rcases List.mem_cons.mp hq with rfl | hq
      · obtain ⟨q2, k1, k2, k3⟩ := sconc_ok hs h2
        exact ⟨(q2.2, .inl (.int (sbin op q.1 q2.1))), q2.1, List.mem_append_left _ (List.mem_map.mpr ⟨q2, k1, rfl⟩), k2, k3, by rw [← he]; rfl⟩
      · obtain ⟨u, y, k1, k2, k3, k4⟩ := ih h1 q hq hs he
        exact ⟨u, y, List.mem_append_right _ k1, k2, k3, k4⟩
    · cases h
theorem sbinC_ok {ρ : Nat → Int32} {lim : Int} {G : sG} {op : Nat} {a b : sV} {r : List (sG × sV)} (hG : sSat ρ G) (h : sbinC lim G op a b = some r) :
    ∃ x y, sd ρ a = .int x ∧ sd ρ b = .int y ∧ ∃ u, u ∈ r ∧ sSat ρ u.1 ∧ sd ρ u.2 = .int (sbin op x y) := by
  unfold sbinC at h
  split at h
  · cases h
  · rename_i l hl
    obtain ⟨q, h1, h2, h3⟩ := sconc_ok hG hl
    obtain ⟨u, y, k1, k2, k3, k4⟩ := sbinC_aux h3 h q h1 h2 rfl
    exact ⟨q.1, y, h3, k3, u, k1, k2, k4⟩
def sbinA (dv : Nat → sV → sV → Option Nat) (G : sG) (op : Nat) (a b : sV) : Option (List (sG × sV)) :=
  if (op == 2 || op == 3) && ((slit0 a && sint b) || (slit0 b && sint a)) then some [(G, .inl (.int 0))]
  else if (op == 0 || op == 4 || op == 5) && (slit0 a && sint b) then some [(G, b)]
  else if (op == 0 || op == 1 || op == 4 || op == 5) && (slit0 b && sint a) then some [(G, a)]
  else match sbinC 4 G op a b with
  | some r => some r
  | none => match dv op a b with
    | some k => some [(G, .inr (false, k))]
    | none => sbinC 70 G op a b
theorem sbinA_ok {ρ : Nat → Int32} {dv : Nat → sV → sV → Option Nat} (hdv : sDV ρ dv) {G : sG} {op : Nat} {a b : sV} {r : List (sG × sV)} (hG : sSat ρ G) (h : sbinA dv G op a b = some r) :
    ∃ x y, sd ρ a = .int x ∧ sd ρ b = .int y ∧ ∃ u, u ∈ r ∧ sSat ρ u.1 ∧ sd ρ u.2 = .int (sbin op x y) := by
  unfold sbinA at h
  split at h
  · rename_i hc
    cases h
    simp only [Bool.and_eq_true, Bool.or_eq_true, beq_iff_eq] at hc
    obtain ⟨h1, ⟨h2, h3⟩ | ⟨h2, h3⟩⟩ := hc
    · obtain ⟨y, hy⟩ := sint_ok (ρ := ρ) h3
      refine ⟨0, y, slit0_ok h2, hy, _, List.mem_singleton.mpr rfl, hG, ?_⟩
      rcases h1 with rfl | rfl <;> simp [sd, sbin]
    · obtain ⟨y, hy⟩ := sint_ok (ρ := ρ) h3
      refine ⟨y, 0, hy, slit0_ok h2, _, List.mem_singleton.mpr rfl, hG, ?_⟩
      rcases h1 with rfl | rfl <;> simp [sd, sbin]
  · split at h
    · rename_i hc
      cases h
      simp only [Bool.and_eq_true, Bool.or_eq_true, beq_iff_eq] at hc
      obtain ⟨h1, h2, h3⟩ := hc
      obtain ⟨y, hy⟩ := sint_ok (ρ := ρ) h3
      refine ⟨0, y, slit0_ok h2, hy, _, List.mem_singleton.mpr rfl, hG, ?_⟩
      rw [hy]
      rcases h1 with (rfl | rfl) | rfl <;> simp [sbin]
    · split at h
      · rename_i hc
        cases h
        simp only [Bool.and_eq_true, Bool.or_eq_true, beq_iff_eq] at hc
        obtain ⟨h1, h2, h3⟩ := hc
        obtain ⟨y, hy⟩ := sint_ok (ρ := ρ) h3
        refine ⟨y, 0, hy, slit0_ok h2, _, List.mem_singleton.mpr rfl, hG, ?_⟩
        rw [hy]
        rcases h1 with ((rfl | rfl) | rfl) | rfl <;> simp [sbin]
      · split at h
        · rename_i r1 hr
          cases h
          exact sbinC_ok hG hr
        · split at h
          · rename_i k hk
            cases h
            obtain ⟨x, y, h1, h2, h3⟩ := hdv _ _ _ _ hk
            exact ⟨x, y, h1, h2, _, List.mem_singleton.mpr rfl, hG, by rw [← h3]; rfl⟩
          · exact sbinC_ok hG h
end SX1
