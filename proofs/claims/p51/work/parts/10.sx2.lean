section SX2
def s_i (v : Value) : Int32 := match v with | .int x => x | _ => 0
def s_l (v : Value) : Int64 := match v with | .long x => x | _ => 0
def s_d (v : Value) : UInt64 := match v with | .double x => x | _ => 0
def s_q (v : Value) : Option Nat := match v with | .ref x => some x | _ => none
def slook (d : sV) (j : Nat) : List (Nat × sV) → sV
  | [] => d
  | q :: r => if j = q.1 then q.2 else slook d j r
def sfi (ρ : Nat → Int32) : List (Nat × sV) → Nat → Int32
  | [] => fun _ => 0
  | q :: r => upd (sfi ρ r) q.1 (s_i (sd ρ q.2))
def sfl (ρ : Nat → Int32) : List (Nat × sV) → Nat → Int64
  | [] => fun _ => 0
  | q :: r => vp_updL (sfl ρ r) q.1 (s_l (sd ρ q.2))
def sfq (ρ : Nat → Int32) : List (Nat × sV) → Nat → Option Nat
  | [] => fun _ => none
  | q :: r => va_up (sfq ρ r) q.1 (s_q (sd ρ q.2))
theorem sfi_at {ρ : Nat → Int32} {j : Nat} : ∀ {us : List (Nat × sV)}, sfi ρ us j = s_i (sd ρ (slook (.inl (.int 0)) j us)) := by
  intro us
  induction us with
  | nil => rfl
  | cons q r ih =>
    unfold sfi slook upd
    by_cases h : j = q.1
    · rw [if_pos h, if_pos h]
    · rw [if_neg h, if_neg h]; exact ih
theorem sfl_at {ρ : Nat → Int32} {j : Nat} : ∀ {us : List (Nat × sV)}, sfl ρ us j = s_l (sd ρ (slook (.inl (.long 0)) j us)) := by
  intro us
  induction us with
  | nil => rfl
  | cons q r ih =>
    unfold sfl slook vp_updL
    by_cases h : j = q.1
    · rw [if_pos h, if_pos h]
    · rw [if_neg h, if_neg h]; exact ih
theorem sfq_at {ρ : Nat → Int32} {j : Nat} : ∀ {us : List (Nat × sV)}, sfq ρ us j = s_q (sd ρ (slook (.inl .null) j us)) := by
  intro us
  induction us with
  | nil => rfl
  | cons q r ih =>
    unfold sfq slook va_up
    by_cases h : j = q.1
    · rw [if_pos h, if_pos h]
    · rw [if_neg h, if_neg h]; exact ih
def se (ρ : Nat → Int32) (e : sE) : mE := match e with
  | .inl (ci, fs) => .inr (ci, fs.map (sd ρ))
  | .inr (ty, n, 0, us) => .inl (ty, n, .inl (sfi ρ us))
  | .inr (ty, n, 1, us) => .inl (ty, n, .inr (.inl (sfl ρ us)))
  | .inr (ty, n, 2, _) => .inl (ty, n, .inr (.inr (.inr (.inl (fun _ => 0)))))
  | .inr (ty, n, _, us) => .inl (ty, n, .inr (.inr (.inr (.inr (sfq ρ us)))))
def sdL (ρ : Nat → Int32) (L : List (Nat × sV)) : List (Nat × Value) := L.map (fun q => (q.1, sd ρ q.2))
def sdS (ρ : Nat → Int32) (S : List sV) : List Value := S.map (sd ρ)
def sdM (ρ : Nat → Int32) (M : List sE) : mH := M.map (se ρ)
theorem sdM_at {ρ : Nat → Int32} {M : List sE} {i : Nat} {e : sE} (h : M[i]? = some e) : (sdM ρ M)[i]? = some (se ρ e) := by
  unfold sdM; rw [List.getElem?_map, h]; rfl
theorem sdM_set {ρ : Nat → Int32} {M : List sE} {i : Nat} {e : sE} : sdM ρ (M.set i e) = (sdM ρ M).set i (se ρ e) := by
  unfold sdM; rw [List.map_set]
theorem sdM_app {ρ : Nat → Int32} {M N : List sE} : sdM ρ (M ++ N) = sdM ρ M ++ sdM ρ N := by
  unfold sdM; rw [List.map_append]
theorem sdM_len {ρ : Nat → Int32} {M : List sE} : (sdM ρ M).length = M.length := by
  unfold sdM; rw [List.length_map]
theorem sdS_app {ρ : Nat → Int32} {M N : List sV} : sdS ρ (M ++ N) = sdS ρ M ++ sdS ρ N := by
  unfold sdS; rw [List.map_append]
theorem sdS_rev {ρ : Nat → Int32} {M : List sV} : sdS ρ M.reverse = (sdS ρ M).reverse := by
  unfold sdS; rw [List.map_reverse]
theorem sdS_sum {ρ : Nat → Int32} {S : List sV} : ((sdS ρ S).map fun v => v.category).sum = (S.map scat).sum := by
  unfold sdS
  rw [List.map_map]
  congr 1
  exact List.map_congr_left (fun v _ => scat_eq)
def sget (L : List (Nat × sV)) (i : Nat) : Option sV := match L with
  | [] => none
  | q :: r => if q.1 = i then some q.2 else sget r i
theorem sget_ok {ρ : Nat → Int32} {i : Nat} {v : sV} : ∀ {L : List (Nat × sV)}, sget L i = some v → mj_get (sdL ρ L) i = some (sd ρ v) := by
  intro L
  induction L with
  | nil => intro h; cases h
  | cons q r ih =>
    intro h
    unfold sget at h
    unfold mj_get sdL
    rw [List.map_cons, List.find?_cons]
    by_cases e : q.1 = i
    · rw [if_pos e] at h
      cases h
      simp [e]
    · rw [if_neg e] at h
      have e2 : (q.1 == i) = false := by simp [e]
      simp only [e2]
      exact ih h
def sput1 (i : Nat) (v : sV) (L : List (Nat × sV)) : List (Nat × sV) := (i, v) :: L.filter (fun q => !(q.1 == i) && !(q.1 + 1 == i && scat q.2 == 2))
def sput2 (i : Nat) (v : sV) (L : List (Nat × sV)) : List (Nat × sV) := (i, v) :: L.filter (fun q => !(q.1 == i) && (!(q.1 == i + 1) && !(q.1 + 1 == i && scat q.2 == 2)))
theorem sput1_ok {ρ : Nat → Int32} {i : Nat} {v : sV} {L : List (Nat × sV)} : mj_put1 i (sd ρ v) (sdL ρ L) = sdL ρ (sput1 i v L) := by
  unfold mj_put1 sput1 sdL
  rw [List.map_cons, List.filter_map]
  congr 2
  exact List.filter_congr (fun q _ => by simp only [Function.comp_def, scat_eq])
theorem sput2_ok {ρ : Nat → Int32} {i : Nat} {v : sV} {L : List (Nat × sV)} : mj_put2 i (sd ρ v) (sdL ρ L) = sdL ρ (sput2 i v L) := by
  unfold mj_put2 sput2 sdL
  rw [List.map_cons, List.filter_map]
  congr 2
  exact List.filter_congr (fun q _ => by simp only [Function.comp_def, scat_eq])
def sargs : Nat → List sV → List (Nat × sV)
  | _, [] => []
  | i, v :: vs => (i, v) :: sargs (if scat v = 2 then i + 2 else i + 1) vs
theorem sargs_ok {ρ : Nat → Int32} : ∀ {vs : List sV} {i : Nat}, lv_args i (sdS ρ vs) = sdL ρ (sargs i vs) := by
  intro vs
  induction vs with
  | nil => intro i; rfl
  | cons v vs ih =>
    intro i
    show (i, sd ρ v) :: lv_args (if (sd ρ v).category = 2 then i + 2 else i + 1) (sdS ρ vs) = (i, sd ρ v) :: sdL ρ (sargs _ vs)
    rw [scat_eq, ih]
def swid : List sV → Nat
  | [] => 0
  | v :: vs => (if scat v = 2 then 2 else 1) + swid vs
theorem swid_ok {ρ : Nat → Int32} : ∀ {vs : List sV}, (lg_sl (sdS ρ vs)).length = swid vs := by
  intro vs
  induction vs with
  | nil => rfl
  | cons v vs ih =>
    have : sdS ρ (v :: vs) = sd ρ v :: sdS ρ vs := rfl
    unfold lg_sl at ih ⊢
    unfold swid
    rw [this, List.flatMap_cons, List.length_append, ih, scat_eq]
    split <;> rfl
-- ===== families of instructions =====
def vty (t : Nat) (v : Value) : Bool := match t, v with
  | 0, .int _ => true
  | 1, .long _ => true
  | 2, .float _ => true
  | 3, .double _ => true
  | 4, v => mj_isr v
  | _, _ => false
def svty (t : Nat) (v : sV) : Bool := match v with
  | .inl v => vty t v
  | .inr (false, _) => t == 0
  | .inr (true, _) => t == 1
theorem svty_ok {ρ : Nat → Int32} {t : Nat} {v : sV} (h : svty t v = true) : vty t (sd ρ v) = true := by
  rcases v with v | ⟨_ | _, k⟩
  · exact h
  · have : t = 0 := by simpa [svty] using h
    subst this; rfl
  · have : t = 1 := by simpa [svty] using h
    subst this; rfl
def spush (i : Instr) (len : Nat) : Option Value := match i, len with
  | .iconst n, 1 => some (.int (Int32.ofInt n))
  | .bipush n, 2 => some (.int (Int8.ofInt n).toInt32)
  | .sipush n, 3 => some (.int (Int16.ofInt n).toInt32)
  | .lconst n, 1 => some (.long (Int64.ofNat (n : Nat)))
  | .aconst_null, 1 => some .null
  | .fconst 0, 1 => some (.float 0)
  | .dconst 0, 1 => some (.double 0)
  | _, _ => none
def sload (i : Instr) (len : Nat) : Option (Nat × Nat) := match i, len with
  | .iload_n n, 1 => some ((n : Nat), 0)
  | .iload n, 2 => some (n, 0)
  | .lload_n n, 1 => some ((n : Nat), 1)
  | .lload n, 2 => some (n, 1)
  | .fload_n n, 1 => some ((n : Nat), 2)
  | .fload n, 2 => some (n, 2)
  | .dload_n n, 1 => some ((n : Nat), 3)
  | .dload n, 2 => some (n, 3)
  | .aload_n n, 1 => some ((n : Nat), 4)
  | .aload n, 2 => some (n, 4)
  | _, _ => none
def sstore (i : Instr) (len : Nat) : Option (Nat × Nat) := match i, len with
  | .istore_n n, 1 => some ((n : Nat), 0)
  | .istore n, 2 => some (n, 0)
  | .lstore_n n, 1 => some ((n : Nat), 1)
  | .lstore n, 2 => some (n, 1)
  | .fstore_n n, 1 => some ((n : Nat), 2)
  | .fstore n, 2 => some (n, 2)
  | .dstore_n n, 1 => some ((n : Nat), 3)
  | .dstore n, 2 => some (n, 3)
  | .astore_n n, 1 => some ((n : Nat), 4)
  | .astore n, 2 => some (n, 4)
  | _, _ => none
def sbo (i : Instr) : Option Nat := match i with
  | .iadd => some 0
  | .isub => some 1
  | .imul => some 2
  | .iand => some 3
  | .ior => some 4
  | .ixor => some 5
  | .ishl => some 6
  | .ishr => some 7
  | .iushr => some 8
  | _ => none
variable {TT : List Cond} {cl : List vw_C} {X : XT} {mi : MI} {fr lo : Nat} {P : Option Value → mH → Prop} {PX : String → mH → Prop} {kc ks pc : Nat} {L : List (Nat × Value)} {S : List Value} {M : mH}
theorem lx_push {i : Instr} {len : Nat} {v : Value} (h : spush i len = some v) (d : decode mi.2.1 pc = .ok (i, len)) (k : LX TT cl X mi fr lo P PX kc ks (pc + len) L (v :: S) M) : LX TT cl X mi fr lo P PX kc ks pc L S M := by
  unfold spush at h
  split at h
  · cases h; exact lx_iconst d rfl k
  · cases h; exact lx_bipush d rfl k
  · cases h; exact lx_sipush d rfl k
  · cases h; exact lx_lconst d rfl k
  · cases h; exact lx_null d k
  · cases h; exact lx_fconst0 d k
  · cases h; exact lx_dconst0 d k
  · cases h
theorem vty_0 {v : Value} (h : vty 0 v = true) : ∃ x, v = .int x := by
  cases v <;> first | exact ⟨_, rfl⟩ | cases h
theorem vty_1 {v : Value} (h : vty 1 v = true) : ∃ x, v = .long x := by
  cases v <;> first | exact ⟨_, rfl⟩ | cases h
theorem vty_2 {v : Value} (h : vty 2 v = true) : ∃ x, v = .float x := by
  cases v <;> first | exact ⟨_, rfl⟩ | cases h
theorem vty_3 {v : Value} (h : vty 3 v = true) : ∃ x, v = .double x := by
  cases v <;> first | exact ⟨_, rfl⟩ | cases h
theorem vty_4 {v : Value} (h : vty 4 v = true) : mj_isr v = true := h
theorem lx_load {i : Instr} {len x t : Nat} {v : Value} (h : sload i len = some (x, t)) (d : decode mi.2.1 pc = .ok (i, len)) (hg : mj_get L x = some v) (hv : vty t v = true) (k : LX TT cl X mi fr lo P PX kc ks (pc + len) L (v :: S) M) : LX TT cl X mi fr lo P PX kc ks pc L S M := by
  unfold sload at h
  split at h
  · cases h; obtain ⟨z, rfl⟩ := vty_0 hv; exact lx_iload_n d rfl hg k
  · cases h; obtain ⟨z, rfl⟩ := vty_0 hv; exact lx_iload d hg k
  · cases h; obtain ⟨z, rfl⟩ := vty_1 hv; exact lx_lload_n d rfl hg k
  · cases h; obtain ⟨z, rfl⟩ := vty_1 hv; exact lx_lload d hg k
  · cases h; obtain ⟨z, rfl⟩ := vty_2 hv; exact lx_fload_n d rfl hg k
  · cases h; obtain ⟨z, rfl⟩ := vty_2 hv; exact lx_fload d hg k
  · cases h; obtain ⟨z, rfl⟩ := vty_3 hv; exact lx_dload_n d rfl hg k
  · cases h; obtain ⟨z, rfl⟩ := vty_3 hv; exact lx_dload d hg k
  · cases h; exact lx_aload_n d rfl hg (vty_4 hv) k
  · cases h; exact lx_aload d hg (vty_4 hv) k
  · cases h
theorem lx_store {i : Instr} {len x t : Nat} {v : Value} (h : sstore i len = some (x, t)) (d : decode mi.2.1 pc = .ok (i, len)) (hv : vty t v = true) (hx : x + 1 < mi.2.2.1 ∨ (x < mi.2.2.1 ∧ (t == 1 || t == 3) = false))
    (k : LX TT cl X mi fr lo P PX kc ks (pc + len) (if t == 1 || t == 3 then mj_put2 x v L else mj_put1 x v L) S M) : LX TT cl X mi fr lo P PX kc ks pc L (v :: S) M := by
  have hx1 : x < mi.2.2.1 := by rcases hx with h | h <;> omega
  unfold sstore at h
  split at h
  · cases h; obtain ⟨z, rfl⟩ := vty_0 hv; exact lx_istore_n d rfl hx1 rfl k
  · cases h; obtain ⟨z, rfl⟩ := vty_0 hv; exact lx_istore d hx1 rfl k
  · cases h; obtain ⟨z, rfl⟩ := vty_1 hv; exact lx_lstore_n d rfl (by rcases hx with h | ⟨_, h⟩; exact h; cases h) rfl k
  · cases h; obtain ⟨z, rfl⟩ := vty_1 hv; exact lx_lstore d (by rcases hx with h | ⟨_, h⟩; exact h; cases h) rfl k
  · cases h; obtain ⟨z, rfl⟩ := vty_2 hv; exact lx_fstore_n d rfl hx1 rfl k
  · cases h; obtain ⟨z, rfl⟩ := vty_2 hv; exact lx_fstore d hx1 rfl k
  · cases h; obtain ⟨z, rfl⟩ := vty_3 hv; exact lx_dstore_n d rfl (by rcases hx with h | ⟨_, h⟩; exact h; cases h) rfl k
  · cases h; obtain ⟨z, rfl⟩ := vty_3 hv; exact lx_dstore d (by rcases hx with h | ⟨_, h⟩; exact h; cases h) rfl k
  · cases h; exact lx_astore_n d rfl hx1 (vty_4 hv) rfl k
  · cases h; exact lx_astore d hx1 (vty_4 hv) rfl k
  · cases h
theorem lx_bin {i : Instr} {op : Nat} {x y : Int32} (h : sbo i = some op) (d : decode mi.2.1 pc = .ok (i, 1)) (k : LX TT cl X mi fr lo P PX kc ks (pc + 1) L (.int (sbin op x y) :: S) M) : LX TT cl X mi fr lo P PX kc ks pc L (.int y :: .int x :: S) M := by
  unfold sbo at h
  split at h
  · cases h; exact lx_iadd d k
  · cases h; exact lx_isub d k
  · cases h; exact lx_imul d k
  · cases h; exact lx_iand d k
  · cases h; exact lx_ior d k
  · cases h; exact lx_ixor d k
  · cases h; exact lx_ishl d k
  · cases h; exact lx_ishr d k
  · cases h; exact lx_iushr d k
  · cases h
theorem scH_eq {x y : Int32} : (scH .eq x.toInt y.toInt = true) ↔ x = y := by simp [scH, Int32.toInt_inj]
theorem lx_icmp {op : ClassFile.Cond} {x y : Int32} {off : Int} {tgt : Nat} (d : decode mi.2.1 pc = .ok (.if_icmp op off, 3)) (ht : (pc : Int) + off = (tgt : Int)) (kt : scH op x.toInt y.toInt = true → LX TT cl X mi fr lo P PX kc ks tgt L S M) (kf : scH op x.toInt y.toInt = false → LX TT cl X mi fr lo P PX kc ks (pc + 3) L S M) : LX TT cl X mi fr lo P PX kc ks pc L (.int y :: .int x :: S) M := by
  cases op with
  | eq => exact lx_icmp_eq d ht (fun h => kt (by simp [scH, h])) (fun h => kf (by simp [scH, Int32.toInt_inj, h]))
  | ne => exact lx_icmp_ne d ht (fun h => kt (by simp [scH, Int32.toInt_inj, h])) (fun h => kf (by simp [scH, h]))
  | lt => exact lx_icmp_lt d ht (fun h => kt (by simp [scH]; exact Int32.lt_iff_toInt_lt.mp h)) (fun h => kf (by simp [scH]; exact Int.not_lt.mp (fun q => h (Int32.lt_iff_toInt_lt.mpr q))))
  | ge => exact lx_icmp_ge d ht (fun h => kt (by simp [scH]; exact Int32.le_iff_toInt_le.mp h)) (fun h => kf (by simp [scH]; exact Int.not_le.mp (fun q => h (Int32.le_iff_toInt_le.mpr q))))
  | gt => exact lx_icmp_gt d ht (fun h => kt (by simp [scH]; exact Int32.lt_iff_toInt_lt.mp h)) (fun h => kf (by simp [scH]; exact Int.not_lt.mp (fun q => h (Int32.lt_iff_toInt_lt.mpr q))))
  | le => exact lx_icmp_le d ht (fun h => kt (by simp [scH]; exact Int32.le_iff_toInt_le.mp h)) (fun h => kf (by simp [scH]; exact Int.not_le.mp (fun q => h (Int32.le_iff_toInt_le.mpr q))))
theorem lx_if {op : ClassFile.Cond} {x : Int32} {off : Int} {tgt : Nat} (d : decode mi.2.1 pc = .ok (.ifCond op off, 3)) (ht : (pc : Int) + off = (tgt : Int)) (kt : scH op x.toInt (0 : Int32).toInt = true → LX TT cl X mi fr lo P PX kc ks tgt L S M) (kf : scH op x.toInt (0 : Int32).toInt = false → LX TT cl X mi fr lo P PX kc ks (pc + 3) L S M) : LX TT cl X mi fr lo P PX kc ks pc L (.int x :: S) M := by
  cases op with
  | eq => exact lx_if_eq d ht (fun h => kt (by simp [scH, h])) (fun h => kf (by simp only [scH, Int32.toInt_inj, h, decide_false]))
  | ne => exact lx_if_ne d ht (fun h => kt (by simp only [scH, Int32.toInt_inj, h, decide_false, Bool.not_false])) (fun h => kf (by simp [scH, h]))
  | lt => exact lx_if_lt d ht (fun h => kt (by simp only [scH, decide_eq_true_eq]; exact Int32.lt_iff_toInt_lt.mp h)) (fun h => kf (by simp only [scH, decide_eq_false_iff_not]; exact (fun q => h (Int32.lt_iff_toInt_lt.mpr q))))
  | ge => exact lx_if_ge d ht (fun h => kt (by simp only [scH, decide_eq_true_eq]; exact Int32.le_iff_toInt_le.mp h)) (fun h => kf (by simp only [scH, decide_eq_false_iff_not]; exact (fun q => h (Int32.le_iff_toInt_le.mpr q))))
  | gt => exact lx_if_gt d ht (fun h => kt (by simp only [scH, decide_eq_true_eq]; exact Int32.lt_iff_toInt_lt.mp h)) (fun h => kf (by simp only [scH, decide_eq_false_iff_not]; exact (fun q => h (Int32.lt_iff_toInt_lt.mpr q))))
  | le => exact lx_if_le d ht (fun h => kt (by simp only [scH, decide_eq_true_eq]; exact Int32.le_iff_toInt_le.mp h)) (fun h => kf (by simp only [scH, decide_eq_false_iff_not]; exact (fun q => h (Int32.le_iff_toInt_le.mpr q))))
end SX2
