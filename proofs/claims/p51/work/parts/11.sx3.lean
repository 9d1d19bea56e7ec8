section SX3
abbrev sT : Type := sC × Nat × Nat
def stgt (pc : Nat) (off : Int) : Option Nat := match (pc : Int) + off with
  | .ofNat t => some t
  | _ => none
theorem stgt_ok {pc t : Nat} {off : Int} (h : stgt pc off = some t) : (pc : Int) + off = (t : Int) := by
  unfold stgt at h
  split at h
  · rename_i t1 e
    cases h
    exact e
  · cases h
def sput (t x : Nat) (v : sV) (L : List (Nat × sV)) : List (Nat × sV) := if t == 1 || t == 3 then sput2 x v L else sput1 x v L
theorem sput_ok {ρ : Nat → Int32} {t x : Nat} {v : sV} {L : List (Nat × sV)} : (if t == 1 || t == 3 then mj_put2 x (sd ρ v) (sdL ρ L) else mj_put1 x (sd ρ v) (sdL ρ L)) = sdL ρ (sput t x v L) := by
  unfold sput
  split
  · exact sput2_ok
  · exact sput1_ok
def sisR (v : sV) : Bool := match v with | .inl v => mj_isR v | _ => false
theorem sisR_ok {ρ : Nat → Int32} {v : sV} (h : sisR v = true) : mj_isR (sd ρ v) = true := by
  rcases v with v | ⟨_ | _, k⟩
  · exact h
  · cases h
  · cases h
/-- words on the stack, branches -/
def sstA (dv : Nat → sV → sV → Option Nat) (maxL : Nat) (i : Instr) (len : Nat) (G : sG) (pc : Nat) (L : List (Nat × sV)) (S : List sV) (M : List sE) : Option (List sT) := match i, len, S with
  | .goto off, 3, S => match stgt pc off with
    | some t => some [((G, t, L, S, M), 0, 0)]
    | none => none
  | .if_icmp op off, 3, b :: a :: S => match stgt pc off, scmp G op a b with
    | some t, some l => some (l.map (fun q => ((q.2, (if q.1 then t else pc + 3), L, S, M), 0, 0)))
    | _, _ => none
  | .ifCond op off, 3, a :: S => match stgt pc off, scmp G op a (.inl (.int 0)) with
    | some t, some l => some (l.map (fun q => ((q.2, (if q.1 then t else pc + 3), L, S, M), 0, 0)))
    | _, _ => none
  | .ifnull off, 3, v :: S => if sisR v then some [((G, pc + 3, L, S, M), 0, 0)] else match v, stgt pc off with
    | .inl .null, some t => some [((G, t, L, S, M), 0, 0)]
    | _, _ => none
  | .ifnonnull off, 3, v :: S => match v with
    | .inl .null => some [((G, pc + 3, L, S, M), 0, 0)]
    | v => if sisR v then (match stgt pc off with
      | some t => some [((G, t, L, S, M), 0, 0)]
      | none => none) else none
  | .iinc x n, 3, S => if x < maxL then (match sget L x with
    | some v => match sconc 70 G v with
      | some l => some (l.map (fun q => ((q.2, pc + 3, sput1 x (.inl (.int (q.1 + Int32.ofInt n))) L, S, M), 0, 0)))
      | none => none
    | none => none) else none
  | .i2l, 1, a :: S => match a with
    | .inl (.int x) => some [((G, pc + 1, L, .inl (.long x.toInt64) :: S, M), 0, 0)]
    | .inr (false, k) => some [((G, pc + 1, L, .inr (true, k) :: S, M), 0, 0)]
    | _ => none
  | .i2c, 1, a :: S => match a with
    | .inl (.int x) => some [((G, pc + 1, L, .inl (.int (x.toUInt32 % 65536).toInt32) :: S, M), 0, 0)]
    | a => match dv 9 a (.inl (.int 0)) with
      | some k => some [((G, pc + 1, L, .inr (false, k) :: S, M), 0, 0)]
      | none => none
  | .lcmp, 1, b :: a :: S => match a, b with
    | .inl (.long x), .inl (.long y) => some [((G, pc + 1, L, .inl (.int (lg_cmp x y)) :: S, M), 0, 0)]
    | .inr (true, j), .inr (true, k) => if j = k then some [((G, pc + 1, L, .inl (.int 0) :: S, M), 0, 0)] else none
    | _, _ => none
  | .dup, 1, v :: S => if scat v = 1 then some [((G, pc + 1, L, v :: v :: S, M), 0, 0)] else none
  | .pop, 1, v :: S => if scat v = 1 then some [((G, pc + 1, L, S, M), 0, 0)] else none
  | .dup2, 1, v :: u :: S => if scat v = 1 ∧ scat u = 1 then some [((G, pc + 1, L, v :: u :: v :: u :: S, M), 0, 0)] else none
  | .dup_x1, 1, v :: u :: S => if scat v = 1 ∧ scat u = 1 then some [((G, pc + 1, L, v :: u :: v :: S, M), 0, 0)] else none
  | .tableswitch dflt lo9 hi9 offs, _, a :: S => match sconc 70 G a with
    | some l => l.foldr (fun q acc => match acc, (if q.1.toInt < lo9 ∨ hi9 < q.1.toInt then some dflt else offs[(q.1.toInt - lo9).toNat]?) with
      | some r, some off => (match stgt pc off with
        | some t => some (((q.2, t, L, S, M), 0, 0) :: r)
        | none => none)
      | _, _ => none) (some [])
    | none => none
  | _, _, _ => none
variable {TT : List Cond} {cl : List vw_C} {X : XT} {mi : MI} {fr lo : Nat} {P : Option Value → mH → Prop} {PX : String → mH → Prop} {KC KS : Nat} {ρ : Nat → Int32}
def sOne (TT : List Cond) (cl : List vw_C) (X : XT) (mi : MI) (fr lo : Nat) (P : Option Value → mH → Prop) (PX : String → mH → Prop) (ρ : Nat → Int32) (KC KS : Nat) (t : sT) : Prop :=
  sSat ρ t.1.1 → ∃ kc ks, kc + t.2.1 ≤ KC ∧ ks + t.2.2 ≤ KS ∧ LX TT cl X mi fr lo P PX kc ks t.1.2.1 (sdL ρ t.1.2.2.1) (sdS ρ t.1.2.2.2.1) (sdM ρ t.1.2.2.2.2)
theorem sOne_get {l : List sT} {G : sG} {pc : Nat} {L : List (Nat × sV)} {S : List sV} {M : List sE} (h : ∀ t, t ∈ l → sOne TT cl X mi fr lo P PX ρ KC KS t) (hm : ((G, pc, L, S, M), 0, 0) ∈ l) (hs : sSat ρ G) :
    LX TT cl X mi fr lo P PX KC KS pc (sdL ρ L) (sdS ρ S) (sdM ρ M) := by
  obtain ⟨kc, ks, h1, h2, h3⟩ := h _ hm hs
  exact lx_room h1 h2 h3
theorem sstA_table {dv : Nat → sV → sV → Option Nat} {dflt lo9 hi9 : Int} {offs : Array Int} {len pc : Nat} {L : List (Nat × sV)} {S : List sV} {M : List sE} {x : Int32} (d : decode mi.2.1 pc = .ok (.tableswitch dflt lo9 hi9 offs, len)) :
    ∀ {l : List (Int32 × sG)} {r : List sT}, (l.foldr (fun q acc => match acc, (if q.1.toInt < lo9 ∨ hi9 < q.1.toInt then some dflt else offs[(q.1.toInt - lo9).toNat]?) with
      | some r, some off => (match stgt pc off with
        | some t => some (((q.2, t, L, S, M), 0, 0) :: r)
        | none => none)
      | _, _ => none) (some [] : Option (List sT))) = some r → ∀ q, q ∈ l → sSat ρ q.2 → q.1 = x → (∀ t, t ∈ r → sOne TT cl X mi fr lo P PX ρ KC KS t) →
      LX TT cl X mi fr lo P PX KC KS pc (sdL ρ L) (.int x :: sdS ρ S) (sdM ρ M) := by
  intro l
  induction l with
  | nil => intro r h q hq; cases hq
  | cons q0 l ih =>
    intro r h q hq hs he hall
    rw [List.foldr_cons] at h
    split at h
    · rename_i r1 off h1 h2
      split at h
      · rename_i t ht
        cases h
        rcases List.mem_cons.mp hq with rfl | hq
        · have k := sOne_get hall List.mem_cons_self hs
          subst he
          split at h2
          · rename_i h9
            cases h2
            exact lx_tableOut d h9 (stgt_ok ht) k
          · rename_i h9
            exact lx_tableIn d (fun z => h9 (Or.inl z)) (fun z => h9 (Or.inr z)) h2 (stgt_ok ht) k
        · exact ih h1 q hq hs he (fun t ht => hall t (List.mem_cons_of_mem _ ht))
      · cases h
    · cases h
theorem sstA_ok {dv : Nat → sV → sV → Option Nat} {i : Instr} {len : Nat} {G : sG} {pc : Nat} {L : List (Nat × sV)} {S : List sV} {M : List sE} {r : List sT}
    (hdv : sDV ρ dv) (hG : sSat ρ G) (h : sstA dv mi.2.2.1 i len G pc L S M = some r) (d : decode mi.2.1 pc = .ok (i, len)) (hall : ∀ t, t ∈ r → sOne TT cl X mi fr lo P PX ρ KC KS t) :
    LX TT cl X mi fr lo P PX KC KS pc (sdL ρ L) (sdS ρ S) (sdM ρ M) := by
  unfold sstA at h
  split at h
  · split at h
    · rename_i t ht
      cases h
      exact lx_goto d (stgt_ok ht) (sOne_get hall (List.mem_singleton.mpr rfl) hG)
    · cases h
  · split at h
    · rename_i b a S _ _ t l ht hl
      cases h
      obtain ⟨x, y, h1, h2, q, h3, h4, h5⟩ := scmp_ok hG hl
      have k := sOne_get hall (List.mem_map.mpr ⟨q, h3, rfl⟩) h4
      have e1 : sdS ρ (b :: a :: S) = .int y :: .int x :: sdS ρ S := by rw [← h1, ← h2]; rfl
      rw [e1]
      refine lx_icmp d (stgt_ok ht) (fun hh => ?_) (fun hh => ?_)
      · rw [h5, hh, if_pos rfl] at k; exact k
      · rw [h5, hh, if_neg (by decide)] at k; exact k
    · cases h
  · split at h
    · rename_i a S _ _ t l ht hl
      cases h
      obtain ⟨x, y, h1, h2, q, h3, h4, h5⟩ := scmp_ok hG hl
      have k := sOne_get hall (List.mem_map.mpr ⟨q, h3, rfl⟩) h4
      cases h2
      have e1 : sdS ρ (a :: S) = .int x :: sdS ρ S := by rw [← h1]; rfl
      rw [e1]
      refine lx_if d (stgt_ok ht) (fun hh => ?_) (fun hh => ?_)
      · rw [h5, hh, if_pos rfl] at k; exact k
      · rw [h5, hh, if_neg (by decide)] at k; exact k
    · cases h
  · split at h
    · rename_i hv
      cases h
      exact lx_ifnull_r d (sisR_ok hv) (sOne_get hall (List.mem_singleton.mpr rfl) hG)
    · split at h
      · rename_i ht _
        cases h
        exact lx_ifnull_n d (stgt_ok ht) (sOne_get hall (List.mem_singleton.mpr rfl) hG)
      · cases h
  · split at h
    · cases h
      exact lx_ifnonnull_n d (sOne_get hall (List.mem_singleton.mpr rfl) hG)
    · split at h
      · rename_i hv
        split at h
        · rename_i ht
          cases h
          exact lx_ifnonnull_r d (stgt_ok ht) (sisR_ok hv) (sOne_get hall (List.mem_singleton.mpr rfl) hG)
        · cases h
      · cases h
  · split at h
    · rename_i hx
      split at h
      · rename_i v hv
        split at h
        · rename_i l hl
          cases h
          obtain ⟨q, h1, h2, h3⟩ := sconc_ok hG hl
          have k := sOne_get hall (List.mem_map.mpr ⟨q, h1, rfl⟩) h2
          refine lx_iinc d (by rw [sget_ok hv, h3]) rfl hx ?_ k
          rw [← sput1_ok]; rfl
        · cases h
      · cases h
    · cases h
  · split at h
    · cases h
      exact lx_i2l d (sOne_get hall (List.mem_singleton.mpr rfl) hG)
    · cases h
      exact lx_i2l d (sOne_get hall (List.mem_singleton.mpr rfl) hG)
    · cases h
  · split at h
    · cases h
      exact lx_i2c d (sOne_get hall (List.mem_singleton.mpr rfl) hG)
    · split at h
      · rename_i a0 S1 a ha _ k hk
        cases h
        obtain ⟨x, y, h1, h2, h3⟩ := hdv _ _ _ _ hk
        have k1 := sOne_get hall (List.mem_singleton.mpr rfl) hG
        refine cast (congrArg (fun z => LX TT cl X mi fr lo P PX KC KS pc (sdL ρ L) (z :: sdS ρ _) (sdM ρ M)) h1.symm) (lx_i2c d ?_)
        refine cast (congrArg (fun z => LX TT cl X mi fr lo P PX KC KS (pc + 1) (sdL ρ L) (.int z :: sdS ρ _) (sdM ρ M)) h3) k1
      · cases h
  · split at h
    · cases h
      exact lx_lcmp d (sOne_get hall (List.mem_singleton.mpr rfl) hG)
    · split at h
      · rename_i hjk
        cases h
        subst hjk
        refine lx_lcmp d ?_
        rw [show ∀ x : Int64, lg_cmp x x = 0 from fun x => by unfold lg_cmp; simp]
        exact sOne_get hall (List.mem_singleton.mpr rfl) hG
      · cases h
    · cases h
  · split at h
    · rename_i hc
      cases h
      exact lx_dup d (by rw [scat_eq]; exact hc) (sOne_get hall (List.mem_singleton.mpr rfl) hG)
    · cases h
  · split at h
    · rename_i hc
      cases h
      exact lx_pop d (by rw [scat_eq]; exact hc) (sOne_get hall (List.mem_singleton.mpr rfl) hG)
    · cases h
  · split at h
    · rename_i hc
      cases h
      exact lx_dup2 d (by rw [scat_eq]; exact hc.1) (by rw [scat_eq]; exact hc.2) (sOne_get hall (List.mem_singleton.mpr rfl) hG)
    · cases h
  · split at h
    · rename_i hc
      cases h
      exact lx_dup_x1 d (by rw [scat_eq]; exact hc.1) (by rw [scat_eq]; exact hc.2) (sOne_get hall (List.mem_singleton.mpr rfl) hG)
    · cases h
  · split at h
    · rename_i a S l hl
      obtain ⟨q, h1, h2, h3⟩ := sconc_ok hG hl
      have k := sstA_table (dv := dv) d h q h1 h2 rfl hall
      rw [← h3] at k
      exact k
    · cases h
  · cases h
end SX3
