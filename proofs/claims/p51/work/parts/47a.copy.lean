section CY1
variable {TT : List Cond} {cl : List vw_C} {X : XT} {mi : MI} {fr lo : Nat} {P : Option Value → mH → Prop} {PX : String → mH → Prop} {kc ks pc : Nat} {L : List (Nat × Value)} {S : List Value} {M : mH}
abbrev acN : MethodName := ⟨"java/lang/System", "arraycopy", "(Ljava/lang/Object;ILjava/lang/Object;II)V"⟩
theorem lx_copyI {index i j n0 n1 : Nat} {f g : Nat → Int32} {n : Int32} (d : decode mi.2.1 pc = .ok (.invokestatic index, 3)) (hl : Cond.methodLink mi.1.cls index acN ∈ TT) (hn : Cond.native acN ∈ TT) (hs : Cond.static acN ∈ TT) (hi : Cond.initialized "java/lang/System" ∈ TT) (hf : 1 ≤ fr ∧ (S.map fun v => v.category).sum + (nativeFrameWords "java/lang/System" "arraycopy" 5 + 11) ≤ lo)
    (hM0 : M[i]? = some (.inl (.int, n0, .inl f))) (hM1 : M[j]? = some (.inl (.int, n1, .inl g))) (h3 : ¬ n < 0) (h4 : n.toNatClampNeg ≤ n0) (h5 : n.toNatClampNeg ≤ n1)
    (kk : LX TT cl X mi fr lo P PX kc ks (pc + 3) L S (M.set j (.inl (.int, n1, .inl (va_cpy f g 0 0 n.toNatClampNeg))))) : LX TT cl X mi fr lo P PX kc ks pc L (.int n :: .int 0 :: .ref j :: .int 0 :: .ref i :: S) M := by
  intro p l e R s m args below meth c Qc XC free D sp A as0 F kq kx as L1 S1 H locs cells slots ls h0 hW hS hl1 hL hSt hcs hss
  have h9 := mj_al_cons hSt
  clear hSt
  obtain ⟨_, S1, rfl, rfl, hSt⟩ := h9
  have h9 := mj_al_cons hSt
  clear hSt
  obtain ⟨_, S1, rfl, rfl, hSt⟩ := h9
  have h9 := mj_al_cons hSt
  clear hSt
  obtain ⟨_, S1, rfl, ⟨a, ha, rfl⟩, hSt⟩ := h9
  have h9 := mj_al_cons hSt
  clear hSt
  obtain ⟨_, S1, rfl, rfl, hSt⟩ := h9
  have h9 := mj_al_cons hSt
  clear hSt
  obtain ⟨_, S1, rfl, ⟨a0, ha0, rfl⟩, hSt⟩ := h9
  obtain ⟨ws, tys, hK, hP, hD, hr⟩ := hW
  obtain ⟨cA, t0, y, h1, h2, h9⟩ := mj_arr hr ha0 hM0
  cases mj_ar_i h9
  obtain ⟨cB, t1, y, g1, g2, h9⟩ := mj_arr hr ha hM1
  cases mj_ar_i h9
  refine va_copyi F.1 F.2.1 (by rw [F.2.2.1]; exact hl1.1.symm) F.2.2.2.1 (F.2.2.2.2.1 _ hl) (F.2.2.2.2.1 _ hn) (F.2.2.2.2.1 _ hs) (F.2.2.2.2.1 _ hi) hK hP hD hS i j t0 t1 h1 g1 h2 g2 rfl (by decide) (by decide) h3 (Nat.le_trans (Nat.le_of_eq (Nat.zero_add _)) h4) (Nat.le_trans (Nat.le_of_eq (Nat.zero_add _)) h5) (fun _ _ => rfl) (Nat.le_trans hf.1 F.2.2.2.2.2.2.2.2.2.2.1) (by rw [mj_al_cat hSt]; exact Nat.le_trans hf.2 F.2.2.2.2.2.2.2.2.2.2.2.1) d (fun H1 locs1 hP1 hD1 hS1 => ?_)
  exact kk p l e R s m args below meth c Qc XC free D sp A as0 F kq kx as L1 _ H1 locs1 cells slots ls h0 ⟨_, tys, hK, hP1, hD1, mj_hr_set hr ha ⟨⟨t1, g2⟩, rfl, rfl⟩⟩ hS1 hl1 hL hSt hcs hss
end CY1
section CY2
variable {cl : List vw_C} {X : XT} {mi : MI} {fr lo : Nat} {D : mF} {P : Option Value → mF → Prop} {PX : String → mF → Prop} {kc ks pc : Nat} {L : List (Nat × Value)} {S : List Value} {sh : sM} {I : mI} {J : mJ}
def cpyI (I : mI) (i j n : Nat) : mI := fun a q => if a = j then (if q < n then I i q else I j q) else I a q
theorem cpyI_o {i j n a : Nat} (h : ¬ a = j) : cpyI I i j n a = I a := by funext q; exact if_neg h
theorem cpyI_s {i j n q : Nat} (h : q < n) : cpyI I i j n j q = I i q := (if_pos rfl).trans (if_pos h)
theorem gi_copyI {TT : List Cond} {index i j n0 n1 n : Nat} {f1 f2 : Nat → Option Nat} (d : decode mi.2.1 pc = .ok (.invokestatic index, 3)) (hl : Cond.methodLink mi.1.cls index acN ∈ TT) (hn : Cond.native acN ∈ TT) (hs : Cond.static acN ∈ TT) (hi : Cond.initialized "java/lang/System" ∈ TT) (hf : 1 ≤ fr ∧ (S.map fun v => v.category).sum + (nativeFrameWords "java/lang/System" "arraycopy" 5 + 11) ≤ lo)
    (hM0 : sh i = some (.inl (.int, n0, 0, f1))) (hM1 : sh j = some (.inl (.int, n1, 0, f2))) (h4 : n ≤ n0) (h5 : n ≤ n1) (h6 : n < 2147483648)
    (kk : LXf TT cl X mi fr lo D P PX kc ks (pc + 3) L S (hp sh (cpyI I i j n) J)) : LXf TT cl X mi fr lo D P PX kc ks pc L (.int (Int32.ofInt ((n : Nat) : Int)) :: .int (Int32.ofInt ((0 : Nat) : Int)) :: .ref j :: .int (Int32.ofInt ((0 : Nat) : Int)) :: .ref i :: S) (hp sh I J) := by
  have e0 : ¬ Int32.ofInt ((n : Nat) : Int) < 0 := by
    rw [oi_0, oi_lt (by omega) (by omega)]; omega
  have e1 : (Int32.ofInt ((n : Nat) : Int)).toNatClampNeg = n := by rw [oi_n (by omega)]; rfl
  intro π0 π M hR hL hS hA hI
  refine lx_copyI (i := π i) (j := π j) (f := fun k => Int32.ofInt (I i k)) (g := fun k => Int32.ofInt (I j k)) d hl hn hs hi ⟨hf.1, ?_⟩ (hR.1 _ _ (hp_at hM0)) (hR.1 _ _ (hp_at hM1)) ?_ (by rw [e1]; exact h4) (by rw [e1]; exact h5) ?_
  · have := hf.2
    show ((rnS π S).map fun v => v.category).sum + _ ≤ _
    rw [rnS_sum]; exact this
  · exact e0
  · rw [e1]
    have hSS := (mcS_cons.mp (mcS_cons.mp (mcS_cons.mp (mcS_cons.mp (mcS_cons.mp hS).2).2).2).2).2
    have e2 : mset (hp sh I J) j (sden (cpyI I i j n) J j (.inl (.int, n1, 0, f2))) = hp sh (cpyI I i j n) J := by
      funext a
      by_cases q : a = j
      · subst q
        rw [mset_same, hp_at hM1]
      · rw [mset_other q]
        unfold hp
        congr 1
        funext s1
        exact sden_eq (cpyI_o q).symm rfl
    rw [← e2] at kk
    have e3 : (va_cpy (fun k => Int32.ofInt (I i k)) (fun k => Int32.ofInt (I j k)) 0 0 n) = fun k => Int32.ofInt (cpyI I i j n j k) := by
      funext k
      unfold va_cpy cpyI
      rw [if_pos rfl]
      by_cases q : k < n
      · rw [if_pos ⟨Nat.zero_le k, by omega⟩, if_pos q, Nat.zero_add, Nat.sub_zero]
      · rw [if_neg (fun z => q (by omega)), if_neg q]
    rw [e3]
    exact kk π0 π _ (rep_set hR (hp_at hM1) trivial) (mcL_set hL) (mcS_set hSS) hA (mIn_set hI)
end CY2
section CY3
theorem tac_L : Cond.methodLink "Miterhouse$States" 158 acN ∈ TT := ttk_6 (List.mem_of_getElem? (i := 42) (by decide +kernel)) (by decide +kernel)
theorem tac_S : Cond.static acN ∈ TT := ttk_6 (List.mem_of_getElem? (i := 43) (by decide +kernel)) (by decide +kernel)
theorem tac_N : Cond.native acN ∈ TT := ttk_6 (List.mem_of_getElem? (i := 44) (by decide +kernel)) (by decide +kernel)
theorem tac_I : Cond.initialized "java/lang/System" ∈ TT := ttk_1 (List.mem_of_getElem? (i := 29) (by decide +kernel)) (by decide +kernel)
end CY3
section AN1
/-! is there one of the first n -/
def anyB (p : Nat → Bool) : Nat → Bool | 0 => false | n + 1 => anyB p n || p n
theorem anyB_f {p : Nat → Bool} : ∀ {n : Nat}, anyB p n = false ↔ ∀ i, i < n → p i = false := by
  intro n
  induction n with
  | zero => exact ⟨fun _ i hi => absurd hi (Nat.not_lt_zero i), fun _ => rfl⟩
  | succ n ih =>
    show (anyB p n || p n) = false ↔ _
    rw [Bool.or_eq_false_iff, ih]
    constructor
    · intro h i hi
      rcases Nat.lt_or_ge i n with q | q
      · exact h.1 i q
      · rw [show i = n by omega]; exact h.2
    · intro h
      exact ⟨fun i hi => h i (by omega), h n (by omega)⟩
theorem anyB_t {p : Nat → Bool} {n : Nat} : anyB p n = true ↔ ∃ i, i < n ∧ p i = true := by
  cases e : anyB p n with
  | false =>
    have h := anyB_f.mp e
    exact ⟨fun z => absurd z (by decide), fun ⟨i, hi, q⟩ => absurd q (by rw [h i hi]; decide)⟩
  | true =>
    refine ⟨fun _ => ?_, fun _ => rfl⟩
    refine Decidable.byContradiction (fun z => ?_)
    have : anyB p n = false := anyB_f.mpr (fun i hi => by
      cases q : p i with
      | false => rfl
      | true => exact absurd ⟨i, hi, q⟩ z)
    rw [this] at e; cases e
theorem anyB_cg {p q : Nat → Bool} : ∀ {n : Nat}, (∀ i, i < n → p i = q i) → anyB p n = anyB q n := by
  intro n
  induction n with
  | zero => intro _; rfl
  | succ n ih => intro h; show (anyB p n || p n) = (anyB q n || q n); rw [ih (fun i hi => h i (by omega)), h n (by omega)]
theorem anyB_blk {p : Nat → Bool} {x m : Nat} (h : ∀ i, i < m → p (x * m + i) = false) : anyB p ((x + 1) * m) = anyB p (x * m) := by
  have g : ∀ k, k ≤ m → anyB p (x * m + k) = anyB p (x * m) := by
    intro k
    induction k with
    | zero => intro _; rfl
    | succ k ih =>
      intro hk
      show (anyB p (x * m + k) || p (x * m + k)) = _
      rw [ih (by omega), h k (by omega), Bool.or_false]
  rw [Nat.add_mul, Nat.one_mul]
  exact g m (Nat.le_refl m)
theorem cd_div {ni x ch : Nat} (h : ch < 2 ^ ni) : (x * 2 ^ ni + ch) / 2 ^ ni = x := by
  rw [Nat.mul_comm, Nat.mul_add_div (Nat.two_pow_pos ni), Nat.div_eq_of_lt h, Nat.add_zero]
theorem cd_mod {ni x ch : Nat} (h : ch < 2 ^ ni) : (x * 2 ^ ni + ch) % 2 ^ ni = ch := by
  rw [Nat.mul_comm, Nat.mul_add_mod, Nat.mod_eq_of_lt h]
theorem chc_a {ni x ch : Nat} (h : ch < 2 ^ ni) : chc ni x ch = x * 2 ^ ni + ch := by
  unfold chc
  rw [Nat.mul_comm, Nat.two_pow_add_eq_or_of_lt h]
theorem chc_dm {ni c : Nat} : chc ni (c / 2 ^ ni) (c % 2 ^ ni) = c := by
  rw [chc_a (Nat.mod_lt _ (Nat.two_pow_pos ni)), Nat.mul_comm]
  exact Nat.div_add_mod c (2 ^ ni)
theorem pow_sp {ni s : Nat} (h : ni ≤ s) : 2 ^ (s - ni) * 2 ^ ni = 2 ^ s := by rw [← Nat.pow_add]; congr 1; omega
/-- by a kept step with the same outputs -/
def AP (kp : Nat → Bool) (ni : Nat) (un : Nat → Bool) (nx : Nat → Nat) (m : Nat → Bool) (y c : Nat) : Bool := m (c / 2 ^ ni) && kp (c % 2 ^ ni) && !un c && decide (nx c = y)
def alk (kp : Nat → Bool) (ni s : Nat) (un : Nat → Bool) (nx : Nat → Nat) (m : Nat → Bool) (y : Nat) : Bool := anyB (AP kp ni un nx m y) (2 ^ s)
def alkN (kp : Nat → Bool) (ni s : Nat) (un : Nat → Bool) (nx : Nat → Nat) : Nat → Nat → Bool | 0 => fun _ => true | k + 1 => alk kp ni s un nx (alkN kp ni s un nx k)
/-- a kept step whose outputs differ -/
def CP (kp : Nat → Bool) (ni : Nat) (un : Nat → Bool) (m : Nat → Bool) (c : Nat) : Bool := m (c / 2 ^ ni) && kp (c % 2 ^ ni) && un c
theorem AP_at {kp : Nat → Bool} {ni : Nat} {un : Nat → Bool} {nx : Nat → Nat} {m : Nat → Bool} {y x ch : Nat} (h : ch < 2 ^ ni) : AP kp ni un nx m y (x * 2 ^ ni + ch) = (m x && kp ch && !un (chc ni x ch) && decide (nx (chc ni x ch) = y)) := by
  unfold AP
  rw [cd_div h, cd_mod h, chc_a h]
theorem CP_at {kp : Nat → Bool} {ni : Nat} {un : Nat → Bool} {m : Nat → Bool} {x ch : Nat} (h : ch < 2 ^ ni) : CP kp ni un m (x * 2 ^ ni + ch) = (m x && kp ch && un (chc ni x ch)) := by
  unfold CP
  rw [cd_div h, cd_mod h, chc_a h]
def bz (b : Bool) : Int := if b then 1 else 0
theorem bz_r (b : Bool) : 0 ≤ bz b ∧ bz b ≤ 1 := by cases b <;> decide
end AN1
