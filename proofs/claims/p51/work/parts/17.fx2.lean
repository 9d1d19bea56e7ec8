section FX2
variable {TT : List Cond} {cl : List vw_C} {X : XT} {mis : Nat → MI} {en : Nat → String} {ρ : Nat → Int32} {m pc nx : Nat} {i : Instr} {len : Nat}
theorem cond_some {β : Type} {c : Bool} {a : Option β} {b : β} (h : cond c a none = some b) : c = true ∧ a = some b := by
  cases c with
  | true => exact ⟨rfl, h⟩
  | false => cases h
/-- words on the stack from the locals -/
def oLoad (m nx x t : Nat) : Op := fun rec d G L S M => getC x (fun v => cond (svty t v) (rec d m G nx L (v :: S) M) none) L
theorem oLoad_ok {x t : Nat} (h : sload i len = some (x, t)) (d : decode (mis m).2.1 pc = .ok (i, len)) (hn : pc + len = nx) : opOK TT cl X mis en ρ m pc (oLoad m nx x t) := by
  intro rec hr dd G L S M r e hG P PX hall
  subst hn
  obtain ⟨v, hv, e1⟩ := getC_ok e
  obtain ⟨e2, e3⟩ := cond_some e1
  exact lx_load h d (sget_ok hv) (svty_ok e2) (hr _ _ _ _ _ _ _ _ e3 hG P PX hall)
def oPush (m nx : Nat) (v : Value) : Op := fun rec d G L S M => rec d m G nx L (.inl v :: S) M
theorem oPush_ok {v : Value} (h : spush i len = some v) (d : decode (mis m).2.1 pc = .ok (i, len)) (hn : pc + len = nx) : opOK TT cl X mis en ρ m pc (oPush m nx v) := by
  intro rec hr dd G L S M r e hG P PX hall
  subst hn
  exact lx_push h d (hr _ _ _ _ _ _ _ _ e hG P PX hall)
theorem oPush_ok2 {v : Value} (hk : kPush TT cl X (mis m) pc len v) (hn : pc + len = nx) : opOK TT cl X mis en ρ m pc (oPush m nx v) := by
  intro rec hr dd G L S M r e hG P PX hall
  subst hn
  exact hk _ _ P PX _ _ _ _ _ (hr _ _ _ _ _ _ _ _ e hG P PX hall)
def oStore (m nx x t : Nat) : Op := fun rec d G L S M => match S with
  | v :: S1 => cond (svty t v) (fS (sput t x v L) (fun L1 => rec d m G nx L1 S1 M)) none
  | [] => none
theorem oStore_ok {x t : Nat} (h : sstore i len = some (x, t)) (d : decode (mis m).2.1 pc = .ok (i, len)) (hx : x + 1 < (mis m).2.2.1 ∨ (x < (mis m).2.2.1 ∧ (t == 1 || t == 3) = false)) (hn : pc + len = nx) : opOK TT cl X mis en ρ m pc (oStore m nx x t) := by
  intro rec hr dd G L S M r e hG P PX hall
  subst hn
  unfold oStore at e
  split at e
  · obtain ⟨e2, e3⟩ := cond_some e
    rw [fS_eq] at e3
    have k := hr _ _ _ _ _ _ _ _ e3 hG P PX hall
    rw [← sput_ok] at k
    exact lx_store h d (svty_ok e2) hx k
  · cases e
/-- two ints -/
def oBin (dv : Nat → sV → sV → Option Nat) (m nx op : Nat) : Op := fun rec d G L S M => match S with
  | b :: a :: S1 => (match a, b with
    | .inl (.int x), .inl (.int y) => fI (sbin op x y) (fun z => rec d m G nx L (.inl (.int z) :: S1) M)
    | a, b => match sbinA dv G op a b with
      | some l => fJ (fun q : sG × sV => fG q.1 (fun G1 => fV q.2 (fun v => rec d m G1 nx L (v :: S1) M))) l
      | none => none)
  | _ => none
theorem oBin_ok {dv : Nat → sV → sV → Option Nat} {op : Nat} (hdv : sDV ρ dv) (h : sbo i = some op) (d : decode (mis m).2.1 pc = .ok (i, 1)) (hn : pc + 1 = nx) : opOK TT cl X mis en ρ m pc (oBin dv m nx op) := by
  intro rec hr dd G L S M r e hG P PX hall
  subst hn
  unfold oBin at e
  split at e
  · split at e
    · rw [fI_eq] at e
      exact lx_bin h d (hr _ _ _ _ _ _ _ _ e hG P PX hall)
    · split at e
      · rename_i l hl
        obtain ⟨x, y, h1, h2, u, h3, h4, h5⟩ := sbinA_ok hdv hG hl
        obtain ⟨r1, e1, j1, j2, j3⟩ := fJ_ok e u h3
        rw [fG_eq, fV_eq] at e1
        have k := gd_of j1 j2 j3 h4 (hr _ _ _ _ _ _ _ _ e1) hG P PX hall
        have e9 : ∀ S1 : List sV, sdS ρ (_ :: _ :: S1) = .int y :: .int x :: sdS ρ S1 := fun S1 => by rw [← h1, ← h2]; rfl
        have e8 : ∀ S1 : List sV, sdS ρ (u.2 :: S1) = .int (sbin op x y) :: sdS ρ S1 := fun S1 => by rw [← h5]; rfl
        rw [e8] at k
        rw [e9]
        exact lx_bin h d k
      · cases e
  · cases e
def oGoto (m tgt : Nat) : Op := fun rec d G L S M => rec d m G tgt L S M
theorem oGoto_ok {off : Int} {tgt : Nat} (d : decode (mis m).2.1 pc = .ok (.goto off, 3)) (ht : (pc : Int) + off = (tgt : Int)) : opOK TT cl X mis en ρ m pc (oGoto m tgt) := by
  intro rec hr dd G L S M r e hG P PX hall
  exact lx_goto d ht (hr _ _ _ _ _ _ _ _ e hG P PX hall)
def cmpF (op : ClassFile.Cond) (G : sG) (a b : sV) (f : Bool → sG → Option sR) : Option sR := match a, b with
  | .inl (.int x), .inl (.int y) => f (scH op x.toInt y.toInt) G
  | a, b => match scmp G op a b with
    | some l => fJ (fun q : Bool × sG => fG q.2 (fun G1 => f q.1 G1)) l
    | none => none
theorem cmpF_ok {op : ClassFile.Cond} {G : sG} {a b : sV} {f : Bool → sG → Option sR} {r : sR} (hG : sSat ρ G) (h : cmpF op G a b f = some r) :
    ∃ x y, sd ρ a = .int x ∧ sd ρ b = .int y ∧ ∃ (G1 : sG) (r1 : sR), f (scH op x.toInt y.toInt) G1 = some r1 ∧ sSat ρ G1 ∧ (∀ lf, lf ∈ r1.1 → lf ∈ r.1) ∧ r1.2.1 ≤ r.2.1 ∧ r1.2.2 ≤ r.2.2 := by
  unfold cmpF at h
  split at h
  · exact ⟨_, _, rfl, rfl, _, _, h, hG, fun _ z => z, Nat.le_refl _, Nat.le_refl _⟩
  · split at h
    · rename_i l hl
      obtain ⟨x, y, h1, h2, q, h3, h4, h5⟩ := scmp_ok hG hl
      obtain ⟨r1, e1, j1, j2, j3⟩ := fJ_ok h q h3
      rw [fG_eq, h5] at e1
      exact ⟨x, y, h1, h2, q.2, r1, e1, h4, j1, j2, j3⟩
    · cases h
def oCmp2 (m nx tgt : Nat) (op : ClassFile.Cond) : Op := fun rec d G L S M => match S with
  | b :: a :: S1 => cmpF op G a b (fun t G1 => cond t (rec d m G1 tgt L S1 M) (rec d m G1 nx L S1 M))
  | _ => none
theorem oCmp2_ok {op : ClassFile.Cond} {off : Int} {tgt : Nat} (d : decode (mis m).2.1 pc = .ok (.if_icmp op off, 3)) (ht : (pc : Int) + off = (tgt : Int)) (hn : pc + 3 = nx) : opOK TT cl X mis en ρ m pc (oCmp2 m nx tgt op) := by
  intro rec hr dd G L S M r e hG P PX hall
  subst hn
  unfold oCmp2 at e
  split at e
  · obtain ⟨x, y, h1, h2, G1, r1, e1, h4, j1, j2, j3⟩ := cmpF_ok hG e
    have e9 : ∀ S1 : List sV, sdS ρ (_ :: _ :: S1) = .int y :: .int x :: sdS ρ S1 := fun S1 => by rw [← h1, ← h2]; rfl
    rw [e9]
    refine lx_icmp d ht (fun hh => ?_) (fun hh => ?_)
    · rw [hh] at e1; exact gd_of j1 j2 j3 h4 (hr _ _ _ _ _ _ _ _ e1) hG P PX hall
    · rw [hh] at e1; exact gd_of j1 j2 j3 h4 (hr _ _ _ _ _ _ _ _ e1) hG P PX hall
  · cases e
def oCmp1 (m nx tgt : Nat) (op : ClassFile.Cond) : Op := fun rec d G L S M => match S with
  | a :: S1 => cmpF op G a (.inl (.int 0)) (fun t G1 => cond t (rec d m G1 tgt L S1 M) (rec d m G1 nx L S1 M))
  | _ => none
theorem oCmp1_ok {op : ClassFile.Cond} {off : Int} {tgt : Nat} (d : decode (mis m).2.1 pc = .ok (.ifCond op off, 3)) (ht : (pc : Int) + off = (tgt : Int)) (hn : pc + 3 = nx) : opOK TT cl X mis en ρ m pc (oCmp1 m nx tgt op) := by
  intro rec hr dd G L S M r e hG P PX hall
  subst hn
  unfold oCmp1 at e
  split at e
  · obtain ⟨x, y, h1, h2, G1, r1, e1, h4, j1, j2, j3⟩ := cmpF_ok hG e
    cases h2
    have e9 : ∀ S1 : List sV, sdS ρ (_ :: S1) = .int x :: sdS ρ S1 := fun S1 => by rw [← h1]; rfl
    rw [e9]
    refine lx_if d ht (fun hh => ?_) (fun hh => ?_)
    · rw [hh] at e1; exact gd_of j1 j2 j3 h4 (hr _ _ _ _ _ _ _ _ e1) hG P PX hall
    · rw [hh] at e1; exact gd_of j1 j2 j3 h4 (hr _ _ _ _ _ _ _ _ e1) hG P PX hall
  · cases e
def snul (v : sV) : Bool := match v with | .inl .null => true | _ => false
theorem snul_ok {v : sV} (h : snul v = true) : v = .inl .null := by
  unfold snul at h
  split at h
  · rfl
  · cases h
def oNull (m nx tgt : Nat) (b : Bool) : Op := fun rec d G L S M => match S with
  | v :: S1 => cond (snul v) (rec d m G (cond b tgt nx) L S1 M) (cond (sisR v) (rec d m G (cond b nx tgt) L S1 M) none)
  | _ => none
theorem oNull_ok {off : Int} {tgt : Nat} (d : decode (mis m).2.1 pc = .ok (.ifnull off, 3)) (ht : (pc : Int) + off = (tgt : Int)) (hn : pc + 3 = nx) : opOK TT cl X mis en ρ m pc (oNull m nx tgt true) := by
  intro rec hr dd G L S M r e hG P PX hall
  subst hn
  unfold oNull at e
  split at e
  · rename_i v S1
    cases h : snul v with
    | true =>
      rw [h] at e
      cases snul_ok h
      exact lx_ifnull_n d ht (hr _ _ _ _ _ _ _ _ e hG P PX hall)
    | false =>
      rw [h] at e
      obtain ⟨e2, e3⟩ := cond_some e
      exact lx_ifnull_r d (sisR_ok e2) (hr _ _ _ _ _ _ _ _ e3 hG P PX hall)
  · cases e
theorem oNonnull_ok {off : Int} {tgt : Nat} (d : decode (mis m).2.1 pc = .ok (.ifnonnull off, 3)) (ht : (pc : Int) + off = (tgt : Int)) (hn : pc + 3 = nx) : opOK TT cl X mis en ρ m pc (oNull m nx tgt false) := by
  intro rec hr dd G L S M r e hG P PX hall
  subst hn
  unfold oNull at e
  split at e
  · rename_i v S1
    cases h : snul v with
    | true =>
      rw [h] at e
      cases snul_ok h
      exact lx_ifnonnull_n d (hr _ _ _ _ _ _ _ _ e hG P PX hall)
    | false =>
      rw [h] at e
      obtain ⟨e2, e3⟩ := cond_some e
      exact lx_ifnonnull_r d ht (sisR_ok e2) (hr _ _ _ _ _ _ _ _ e3 hG P PX hall)
  · cases e
/-- the few ints that a word may be -/
def conF (G : sG) (v : sV) (f : Int32 → sG → Option sR) : Option sR := match v with
  | .inl (.int x) => f x G
  | v => match sconc 70 G v with
    | some l => fJ (fun q : Int32 × sG => fG q.2 (fun G1 => fI q.1 (fun x => f x G1))) l
    | none => none
theorem conF_ok {G : sG} {v : sV} {f : Int32 → sG → Option sR} {r : sR} (hG : sSat ρ G) (h : conF G v f = some r) :
    ∃ x, sd ρ v = .int x ∧ ∃ (G1 : sG) (r1 : sR), f x G1 = some r1 ∧ sSat ρ G1 ∧ (∀ lf, lf ∈ r1.1 → lf ∈ r.1) ∧ r1.2.1 ≤ r.2.1 ∧ r1.2.2 ≤ r.2.2 := by
  unfold conF at h
  split at h
  · exact ⟨_, rfl, _, _, h, hG, fun _ z => z, Nat.le_refl _, Nat.le_refl _⟩
  · split at h
    · rename_i l hl
      obtain ⟨q, h3, h4, h5⟩ := sconc_ok hG hl
      obtain ⟨r1, e1, j1, j2, j3⟩ := fJ_ok h q h3
      rw [fG_eq, fI_eq] at e1
      exact ⟨q.1, h5, q.2, r1, e1, h4, j1, j2, j3⟩
    · cases h
def oIinc (m nx x : Nat) (n : Int) : Op := fun rec d G L S M => getC x (fun v => conF G v (fun y G1 => fI (y + Int32.ofInt n) (fun z => fS (sput1 x (.inl (.int z)) L) (fun L1 => rec d m G1 nx L1 S M)))) L
theorem oIinc_ok {x : Nat} {n : Int} (d : decode (mis m).2.1 pc = .ok (.iinc x n, 3)) (hx : x < (mis m).2.2.1) (hn : pc + 3 = nx) : opOK TT cl X mis en ρ m pc (oIinc m nx x n) := by
  intro rec hr dd G L S M r e hG P PX hall
  subst hn
  obtain ⟨v, hv, e1⟩ := getC_ok e
  obtain ⟨y, h1, G1, r1, e2, h4, j1, j2, j3⟩ := conF_ok hG e1
  rw [fI_eq, fS_eq] at e2
  have k := gd_of j1 j2 j3 h4 (hr _ _ _ _ _ _ _ _ e2) hG P PX hall
  refine lx_iinc d (by rw [sget_ok hv, h1]) rfl hx ?_ k
  rw [← sput1_ok]; rfl
def oI2l (m nx : Nat) : Op := fun rec d G L S M => match S with
  | .inl (.int x) :: S1 => rec d m G nx L (.inl (.long x.toInt64) :: S1) M
  | .inr (false, k) :: S1 => rec d m G nx L (.inr (true, k) :: S1) M
  | _ => none
theorem oI2l_ok (d : decode (mis m).2.1 pc = .ok (.i2l, 1)) (hn : pc + 1 = nx) : opOK TT cl X mis en ρ m pc (oI2l m nx) := by
  intro rec hr dd G L S M r e hG P PX hall
  subst hn
  unfold oI2l at e
  split at e
  · exact lx_i2l d (hr _ _ _ _ _ _ _ _ e hG P PX hall)
  · exact lx_i2l d (hr _ _ _ _ _ _ _ _ e hG P PX hall)
  · cases e
def oI2c (dv : Nat → sV → sV → Option Nat) (m nx : Nat) : Op := fun rec d G L S M => match S with
  | a :: S1 => (match dv 9 a (.inl (.int 0)) with
    | some k => rec d m G nx L (.inr (false, k) :: S1) M
    | none => none)
  | _ => none
theorem oI2c_ok {dv : Nat → sV → sV → Option Nat} (hdv : sDV ρ dv) (d : decode (mis m).2.1 pc = .ok (.i2c, 1)) (hn : pc + 1 = nx) : opOK TT cl X mis en ρ m pc (oI2c dv m nx) := by
  intro rec hr dd G L S M r e hG P PX hall
  subst hn
  unfold oI2c at e
  split at e
  · split at e
    · rename_i a S1 k hk
      obtain ⟨x, y, h1, h2, h3⟩ := hdv _ _ _ _ hk
      have k1 := hr _ _ _ _ _ _ _ _ e hG P PX hall
      have e9 : ∀ S1 : List sV, sdS ρ (_ :: S1) = .int x :: sdS ρ S1 := fun S1 => by rw [← h1]; rfl
      have e8 : ∀ S1 : List sV, sdS ρ (.inr (false, k) :: S1) = .int (sbin 9 x y) :: sdS ρ S1 := fun S1 => by rw [← h3]; rfl
      rw [e8] at k1
      rw [e9]
      exact lx_i2c d k1
    · cases e
  · cases e
def oLcmp (m nx : Nat) : Op := fun rec d G L S M => match S with
  | .inl (.long y) :: .inl (.long x) :: S1 => fI (lg_cmp x y) (fun z => rec d m G nx L (.inl (.int z) :: S1) M)
  | .inr (true, j) :: .inr (true, k) :: S1 => cond (Nat.beq j k) (rec d m G nx L (.inl (.int 0) :: S1) M) none
  | _ => none
theorem oLcmp_ok (d : decode (mis m).2.1 pc = .ok (.lcmp, 1)) (hn : pc + 1 = nx) : opOK TT cl X mis en ρ m pc (oLcmp m nx) := by
  intro rec hr dd G L S M r e hG P PX hall
  subst hn
  unfold oLcmp at e
  split at e
  · rw [fI_eq] at e
    exact lx_lcmp d (hr _ _ _ _ _ _ _ _ e hG P PX hall)
  · obtain ⟨e2, e3⟩ := cond_some e
    cases Nat.eq_of_beq_eq_true e2
    refine lx_lcmp d ?_
    rw [show ∀ x : Int64, lg_cmp x x = 0 from fun x => by unfold lg_cmp; simp]
    exact hr _ _ _ _ _ _ _ _ e3 hG P PX hall
  · cases e
def oDup (m nx : Nat) : Op := fun rec d G L S M => match S with
  | v :: S1 => cond (Nat.beq (scat v) 1) (rec d m G nx L (v :: v :: S1) M) none
  | _ => none
theorem oDup_ok (d : decode (mis m).2.1 pc = .ok (.dup, 1)) (hn : pc + 1 = nx) : opOK TT cl X mis en ρ m pc (oDup m nx) := by
  intro rec hr dd G L S M r e hG P PX hall
  subst hn
  unfold oDup at e
  split at e
  · obtain ⟨e2, e3⟩ := cond_some e
    exact lx_dup d (by rw [scat_eq]; exact Nat.eq_of_beq_eq_true e2) (hr _ _ _ _ _ _ _ _ e3 hG P PX hall)
  · cases e
def oPop (m nx : Nat) : Op := fun rec d G L S M => match S with
  | v :: S1 => cond (Nat.beq (scat v) 1) (rec d m G nx L S1 M) none
  | _ => none
theorem oPop_ok (d : decode (mis m).2.1 pc = .ok (.pop, 1)) (hn : pc + 1 = nx) : opOK TT cl X mis en ρ m pc (oPop m nx) := by
  intro rec hr dd G L S M r e hG P PX hall
  subst hn
  unfold oPop at e
  split at e
  · obtain ⟨e2, e3⟩ := cond_some e
    exact lx_pop d (by rw [scat_eq]; exact Nat.eq_of_beq_eq_true e2) (hr _ _ _ _ _ _ _ _ e3 hG P PX hall)
  · cases e
def oDup2 (m nx : Nat) : Op := fun rec d G L S M => match S with
  | v :: u :: S1 => cond (Nat.beq (scat v) 1 && Nat.beq (scat u) 1) (rec d m G nx L (v :: u :: v :: u :: S1) M) none
  | _ => none
theorem oDup2_ok (d : decode (mis m).2.1 pc = .ok (.dup2, 1)) (hn : pc + 1 = nx) : opOK TT cl X mis en ρ m pc (oDup2 m nx) := by
  intro rec hr dd G L S M r e hG P PX hall
  subst hn
  unfold oDup2 at e
  split at e
  · obtain ⟨e2, e3⟩ := cond_some e
    rw [Bool.and_eq_true] at e2
    exact lx_dup2 d (by rw [scat_eq]; exact Nat.eq_of_beq_eq_true e2.1) (by rw [scat_eq]; exact Nat.eq_of_beq_eq_true e2.2) (hr _ _ _ _ _ _ _ _ e3 hG P PX hall)
  · cases e
def oDupX1 (m nx : Nat) : Op := fun rec d G L S M => match S with
  | v :: u :: S1 => cond (Nat.beq (scat v) 1 && Nat.beq (scat u) 1) (rec d m G nx L (v :: u :: v :: S1) M) none
  | _ => none
theorem oDupX1_ok (d : decode (mis m).2.1 pc = .ok (.dup_x1, 1)) (hn : pc + 1 = nx) : opOK TT cl X mis en ρ m pc (oDupX1 m nx) := by
  intro rec hr dd G L S M r e hG P PX hall
  subst hn
  unfold oDupX1 at e
  split at e
  · obtain ⟨e2, e3⟩ := cond_some e
    rw [Bool.and_eq_true] at e2
    exact lx_dup_x1 d (by rw [scat_eq]; exact Nat.eq_of_beq_eq_true e2.1) (by rw [scat_eq]; exact Nat.eq_of_beq_eq_true e2.2) (hr _ _ _ _ _ _ _ _ e3 hG P PX hall)
  · cases e
def oTab (m pc : Nat) (dflt lo9 hi9 : Int) (offs : Array Int) : Op := fun rec d G L S M => match S with
  | a :: S1 => conF G a (fun x G1 => match (if x.toInt < lo9 ∨ hi9 < x.toInt then some dflt else offs[(x.toInt - lo9).toNat]?) with
    | some off => (match stgt pc off with
      | some t => fN t (fun t => rec d m G1 t L S1 M)
      | none => none)
    | none => none)
  | _ => none
theorem oTab_ok {dflt lo9 hi9 : Int} {offs : Array Int} (d : decode (mis m).2.1 pc = .ok (.tableswitch dflt lo9 hi9 offs, len)) : opOK TT cl X mis en ρ m pc (oTab m pc dflt lo9 hi9 offs) := by
  intro rec hr dd G L S M r e hG P PX hall
  unfold oTab at e
  split at e
  · obtain ⟨x, h1, G1, r1, e2, h4, j1, j2, j3⟩ := conF_ok hG e
    have e9 : ∀ S1 : List sV, sdS ρ (_ :: S1) = .int x :: sdS ρ S1 := fun S1 => by rw [← h1]; rfl
    rw [e9]
    split at e2
    · rename_i off hoff
      split at e2
      · rename_i t ht
        rw [fN_eq] at e2
        have k := gd_of j1 j2 j3 h4 (hr _ _ _ _ _ _ _ _ e2) hG P PX hall
        split at hoff
        · rename_i h9
          cases hoff
          exact lx_tableOut d h9 (stgt_ok ht) k
        · rename_i h9
          exact lx_tableIn d (fun z => h9 (Or.inl z)) (fun z => h9 (Or.inr z)) hoff (stgt_ok ht) k
      · cases e2
    · cases e2
  · cases e
end FX2
