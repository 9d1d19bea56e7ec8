section AT1
variable {X : XT} {L9 : Nat} {xs : Nat → Int32} {sh : sM} {I : mI} {J : mJ}

variable {D : mF} {P : Option Value → mF → Prop} {PX : String → mF → Prop} {kc ks : Nat}

theorem xor1 (x : Nat) : x ^^^ 1 = if x % 2 = 0 then x + 1 else x - 1 := by
  apply Nat.eq_of_testBit_eq
  intro i
  rw [Nat.testBit_xor]
  have h1 : (1 : Nat).testBit i = decide (i = 0) := by
    cases i with
    | zero => rfl
    | succ j => rw [Nat.testBit_succ]; simp
  rw [h1]
  split
  · rename_i h
    cases i with
    | zero => rw [Nat.testBit_zero, Nat.testBit_zero, show x % 2 = 0 from h, show (x + 1) % 2 = 1 by omega]; rfl
    | succ j => rw [Nat.testBit_succ, Nat.testBit_succ, show (x + 1) / 2 = x / 2 by omega]; simp
  · rename_i h
    cases i with
    | zero => rw [Nat.testBit_zero, Nat.testBit_zero, show x % 2 = 1 by omega, show (x - 1) % 2 = 0 by omega]; rfl
    | succ j => rw [Nat.testBit_succ, Nat.testBit_succ, show (x - 1) / 2 = x / 2 by omega]; simp
/-- the value of a literal, of those of the nodes -/
def lit (v : Nat → Bool) (x : Nat) : Bool := v (x / 2) ^^ decide (x % 2 = 1)
theorem lit_x {v : Nat → Bool} {x : Nat} : lit v (x ^^^ 1) = !lit v x := by
  unfold lit
  rw [xor1]
  split
  · rename_i h
    rw [show (x + 1) / 2 = x / 2 by omega, decide_eq_true (show (x + 1) % 2 = 1 by omega), decide_eq_false (show ¬ x % 2 = 1 by omega)]
    cases v (x / 2) <;> rfl
  · rename_i h
    rw [show (x - 1) / 2 = x / 2 by omega, decide_eq_false (show ¬ (x - 1) % 2 = 1 by omega), decide_eq_true (show x % 2 = 1 by omega)]
    cases v (x / 2) <;> rfl
theorem x1_lt {x m : Nat} (h : x < 2 * m) : x ^^^ 1 < 2 * m := by rw [xor1]; split <;> omega
/-- the values of the nodes, of those of the sources -/
def ndv (s : Nat) (lo hi : Nat → Nat) (src : Nat → Bool) : Nat → Nat → Bool
  | 0, _ => false
  | n + 1, j => if j = n then (if n = 0 then false else if n ≤ s then src (n - 1) else lit (ndv s lo hi src n) (lo n) && lit (ndv s lo hi src n) (hi n)) else ndv s lo hi src n j
theorem ndv_st {s : Nat} {lo hi : Nat → Nat} {src : Nat → Bool} {n m j : Nat} (h : j < n) (h2 : n ≤ m) : ndv s lo hi src m j = ndv s lo hi src n j := by
  induction m with
  | zero => omega
  | succ m ih =>
    rcases Nat.lt_or_ge m n with q | q
    · have : n = m + 1 := by omega
      rw [this]
    · show (if j = m then _ else ndv s lo hi src m j) = _
      rw [if_neg (by omega)]
      exact ih q
theorem lit_st {s : Nat} {lo hi : Nat → Nat} {src : Nat → Bool} {n m x : Nat} (h : x < 2 * n) (h2 : n ≤ m) : lit (ndv s lo hi src m) x = lit (ndv s lo hi src n) x := by
  unfold lit
  rw [ndv_st (j := x / 2) (by omega) h2]
theorem ndv_cg {s : Nat} {lo hi lo1 hi1 : Nat → Nat} {src : Nat → Bool} : ∀ {n : Nat} (_ : ∀ j, j < n → lo j = lo1 j ∧ hi j = hi1 j), ndv s lo hi src n = ndv s lo1 hi1 src n := by
  intro n
  induction n with
  | zero => intro _; rfl
  | succ n ih =>
    intro h
    have e := ih (fun j hj => h j (by omega))
    funext j
    show (if j = n then _ else ndv s lo hi src n j) = (if j = n then _ else ndv s lo1 hi1 src n j)
    rw [e, (h n (by omega)).1, (h n (by omega)).2]
/-- an and's value -/
theorem ndv_and {s : Nat} {lo hi : Nat → Nat} {src : Nat → Bool} {m j : Nat} (h : s < j) (hj : j < m) (h1 : lo j < 2 * j) (h2 : hi j < 2 * j) : ndv s lo hi src m j = (lit (ndv s lo hi src m) (lo j) && lit (ndv s lo hi src m) (hi j)) := by
  rw [ndv_st (n := j + 1) (by omega) (by omega), lit_st (m := m) h1 (by omega), lit_st (m := m) h2 (by omega)]
  show (if j = j then _ else _) = _
  rw [if_pos rfl, if_neg (by omega), if_neg (by omega)]
theorem ndv_0 {s : Nat} {lo hi : Nat → Nat} {src : Nat → Bool} {m : Nat} : ndv s lo hi src m 0 = false := by
  cases m with
  | zero => rfl
  | succ m =>
    rw [ndv_st (n := 1) (by omega) (by omega)]
    rfl
theorem ndv_src {s : Nat} {lo hi : Nat → Nat} {src : Nat → Bool} {m j : Nat} (h : j < s) (hm : s < m) : ndv s lo hi src m (j + 1) = src j := by
  rw [ndv_st (n := j + 2) (by omega) (by omega)]
  show (if j + 1 = j + 1 then _ else _) = _
  rw [if_pos rfl, if_neg (by omega), if_pos (by omega)]; rfl
/-- the nodes that are there: m of them, s sources -/
def AI (I : mI) (s m : Nat) (lo hi : Nat → Nat) : Prop :=
  I 16 4 = ((s + 1 : Nat) : Int) ∧ I 16 5 = (m : Int) ∧ s + 1 ≤ m ∧ m ≤ 250 ∧ (∀ j, j < m → I 31 j = lo j ∧ I 32 j = hi j) ∧ (∀ j, j ≤ s → lo j = 0 ∧ hi j = 0) ∧ (∀ j, s < j → j < m → lo j < 2 * j ∧ hi j < 2 * j)
theorem a_lesserPin (hx : HX X L9 xs) (hA : clA sh) {j v : Nat} (hj : j < 256) (hv : I 31 j = v) : EVp TT cl6 X mi_A_lesserPin 1 [.ref 16, .int (Int32.ofInt ((j : Nat) : Int))] sh I J (.int (Int32.ofInt ((v : Nat) : Int))) := by
  refine gw_enter (hx_ok hx) (by decide +kernel) (Nat.le_of_ble_eq_true rfl) (L := [(0, _), (1, _)]) rfl ?_
  refine lf_aload_n d_A_lesserPin_0 rfl rfl rfl ?_
  refine gi_getr s_A_lesserPin_1 (c_16 hA) rfl ?_
  refine lf_iload_n d_A_lesserPin_4 rfl rfl ?_
  refine gw_callP s_A_lesserPin_5 (m_numberAtN hx (c_31 hA) (by omega)) (S := []) rfl rfl gcR_4 (by decide) (by decide +kernel) (Nat.le_of_ble_eq_true rfl) ?_
  refine gi_top hv ?_
  refine gw_iret d_A_lesserPin_8 rfl ?_
  exact ⟨rfl, rfl, rfl, rfl⟩
theorem a_greaterPin (hx : HX X L9 xs) (hA : clA sh) {j v : Nat} (hj : j < 256) (hv : I 32 j = v) : EVp TT cl6 X mi_A_greaterPin 1 [.ref 16, .int (Int32.ofInt ((j : Nat) : Int))] sh I J (.int (Int32.ofInt ((v : Nat) : Int))) := by
  refine gw_enter (hx_ok hx) (by decide +kernel) (Nat.le_of_ble_eq_true rfl) (L := [(0, _), (1, _)]) rfl ?_
  refine lf_aload_n d_A_greaterPin_0 rfl rfl rfl ?_
  refine gi_getr s_A_greaterPin_1 (c_16 hA) rfl ?_
  refine lf_iload_n d_A_greaterPin_4 rfl rfl ?_
  refine gw_callP s_A_greaterPin_5 (m_numberAtN hx (c_32 hA) (by omega)) (S := []) rfl rfl gcR_4 (by decide) (by decide +kernel) (Nat.le_of_ble_eq_true rfl) ?_
  refine gi_top hv ?_
  refine gw_iret d_A_greaterPin_8 rfl ?_
  exact ⟨rfl, rfl, rfl, rfl⟩
theorem a_literalOf (hx : HX X L9 xs) (hA : clA sh) {j v : Nat} (hj : j < 80) (hv : I 33 j = v) : EVp TT cl6 X mi_A_literalOf 1 [.ref 16, .int (Int32.ofInt ((j : Nat) : Int))] sh I J (.int (Int32.ofInt ((v : Nat) : Int))) := by
  refine gw_enter (hx_ok hx) (by decide +kernel) (Nat.le_of_ble_eq_true rfl) (L := [(0, _), (1, _)]) rfl ?_
  refine lf_aload_n d_A_literalOf_0 rfl rfl rfl ?_
  refine gi_getr s_A_literalOf_1 (c_16 hA) rfl ?_
  refine lf_iload_n d_A_literalOf_4 rfl rfl ?_
  refine gw_callP s_A_literalOf_5 (m_numberAtN hx (c_33 hA) (by omega)) (S := []) rfl rfl gcR_4 (by decide) (by decide +kernel) (Nat.le_of_ble_eq_true rfl) ?_
  refine gi_top hv ?_
  refine gw_iret d_A_literalOf_8 rfl ?_
  exact ⟨rfl, rfl, rfl, rfl⟩
theorem a_isAnd (hx : HX X L9 xs) (hA : clA sh) {s m : Nat} {lo hi : Nat → Nat} (hI : AI I s m lo hi) {j : Nat} (hj : j < 256) : EVp TT cl6 X mi_A_isAnd 0 [.ref 16, .int (Int32.ofInt ((j : Nat) : Int))] sh I J (.int (Int32.ofInt (if s < j ∧ j < m then 1 else 0))) := by
  obtain ⟨hI1, hI2, hI3, hI4, hI5, hI6, hI7⟩ := hI
  refine gw_enter (hx_ok hx) (by decide +kernel) (Nat.le_of_ble_eq_true rfl) (L := [(0, _), (1, _)]) rfl ?_
  refine lf_iload_n d_A_isAnd_0 rfl rfl ?_
  refine lf_aload_n d_A_isAnd_1 rfl rfl rfl ?_
  refine gi_geti s_A_isAnd_2 (c_16 hA) rfl ?_
  refine gi_top hI1 ?_
  refine gi_icmp_lt d_A_isAnd_5 (tgt := 20) (by decide) (by omega) (fun hb5 => ?_) (fun hb5 => ?_)
  · refine lf_iconst d_A_isAnd_20 (v := Int32.ofInt ((0 : Nat) : Int)) rfl ?_
    refine gw_zret d_A_isAnd_21 rfl (by omega) ?_
    first
      | exact ⟨rfl, congrArg (fun z => some (Value.int (Int32.ofInt z))) (if_pos (by omega)).symm, rfl, rfl⟩
      | exact ⟨rfl, congrArg (fun z => some (Value.int (Int32.ofInt z))) (if_neg (by omega)).symm, rfl, rfl⟩
  · refine lf_iload_n d_A_isAnd_8 rfl rfl ?_
    refine lf_aload_n d_A_isAnd_9 rfl rfl rfl ?_
    refine gi_geti s_A_isAnd_10 (c_16 hA) rfl ?_
    refine gi_top hI2 ?_
    refine gi_icmp_ge d_A_isAnd_13 (tgt := 20) (by decide) (by omega) (fun hb13 => ?_) (fun hb13 => ?_)
    · refine lf_iconst d_A_isAnd_20 (v := Int32.ofInt ((0 : Nat) : Int)) rfl ?_
      refine gw_zret d_A_isAnd_21 rfl (by omega) ?_
      first
        | exact ⟨rfl, congrArg (fun z => some (Value.int (Int32.ofInt z))) (if_pos (by omega)).symm, rfl, rfl⟩
        | exact ⟨rfl, congrArg (fun z => some (Value.int (Int32.ofInt z))) (if_neg (by omega)).symm, rfl, rfl⟩
    · refine lf_iconst d_A_isAnd_16 (v := Int32.ofInt ((1 : Nat) : Int)) rfl ?_
      refine lf_goto d_A_isAnd_17 (tgt := 21) (by decide) ?_
      refine gw_zret d_A_isAnd_21 rfl (by omega) ?_
      first
        | exact ⟨rfl, congrArg (fun z => some (Value.int (Int32.ofInt z))) (if_pos (by omega)).symm, rfl, rfl⟩
        | exact ⟨rfl, congrArg (fun z => some (Value.int (Int32.ofInt z))) (if_neg (by omega)).symm, rfl, rfl⟩
theorem a_nodeOf_l (hx : HX X L9 xs) (hA : clA sh) {s m : Nat} {lo hi : Nat → Nat} (hI : AI I s m lo hi) {p q : Nat} (hpp : p < 2 * m) (hqq : q < 2 * m) (hret : ∀ j, s < j → j < m → lo j = p → hi j = q → P (some (.int (Int32.ofInt ((2 * j : Nat) : Int)))) (hp sh I J)) (k47 : LXf TT cl6 X mi_A_nodeOf (40 + 2) (1000 + 200 * 2) D P PX kc ks 47 [(3, .int (Int32.ofInt ((m : Nat) : Int))), (0, .ref 16), (1, .int (Int32.ofInt ((p : Nat) : Int))), (2, .int (Int32.ofInt ((q : Nat) : Int)))] [] (hp sh I J)) : ∀ c j : Nat, j + c = m → s < j → LXf TT cl6 X mi_A_nodeOf (40 + 2) (1000 + 200 * 2) D P PX kc ks 5 [(3, .int (Int32.ofInt ((j : Nat) : Int))), (0, .ref 16), (1, .int (Int32.ofInt ((p : Nat) : Int))), (2, .int (Int32.ofInt ((q : Nat) : Int)))] [] (hp sh I J) := by
  obtain ⟨hI1, hI2, hI3, hI4, hI5, hI6, hI7⟩ := hI
  intro c
  induction c with
  | zero =>
    intro j hj hs
    obtain rfl : j = m := by omega
    refine lf_iload_n d_A_nodeOf_5 rfl rfl ?_
    refine lf_aload_n d_A_nodeOf_6 rfl rfl rfl ?_
    refine gi_geti s_A_nodeOf_7 (c_16 hA) rfl ?_
    refine gi_top hI2 ?_
    refine gi_icmp_ge d_A_nodeOf_10 (tgt := 47) (by decide) (by omega) (fun hb10 => ?_) (fun hb10 => False.elim (by omega))
    exact k47
  | succ c ih =>
    intro j hj hs
    have h7 := hI7 j hs (by omega)
    refine lf_iload_n d_A_nodeOf_5 rfl rfl ?_
    refine lf_aload_n d_A_nodeOf_6 rfl rfl rfl ?_
    refine gi_geti s_A_nodeOf_7 (c_16 hA) rfl ?_
    refine gi_top hI2 ?_
    refine gi_icmp_ge d_A_nodeOf_10 (tgt := 47) (by decide) (by omega) (fun hb10 => False.elim (by omega)) (fun hb10 => ?_)
    refine lf_aload_n d_A_nodeOf_13 rfl rfl rfl ?_
    refine gi_getr s_A_nodeOf_14 (c_16 hA) rfl ?_
    refine lf_iload_n d_A_nodeOf_17 rfl rfl ?_
    refine gw_callP s_A_nodeOf_18 (m_numberAtN hx (c_31 hA) (by omega)) (S := []) rfl rfl gcR_4 (by decide) (by decide +kernel) (Nat.le_of_ble_eq_true rfl) ?_
    refine gi_top (hI5 j (by omega)).1 ?_
    refine lf_iload_n d_A_nodeOf_21 rfl rfl ?_
    refine gi_icmp_ne d_A_nodeOf_22 (tgt := 41) (by decide) (by omega) (fun hb22 => ?_) (fun hb22 => ?_)
    · refine gi_iincN d_A_nodeOf_41 rfl (by decide +kernel) (L2 := [(3, _), (0, _), (1, _), (2, _)]) rfl ?_
      refine lf_goto d_A_nodeOf_44 (tgt := 5) (by decide) ?_
      exact ih (j + 1) (by omega) (by omega)
    · refine lf_aload_n d_A_nodeOf_25 rfl rfl rfl ?_
      refine gi_getr s_A_nodeOf_26 (c_16 hA) rfl ?_
      refine lf_iload_n d_A_nodeOf_29 rfl rfl ?_
      refine gw_callP s_A_nodeOf_30 (m_numberAtN hx (c_32 hA) (by omega)) (S := []) rfl rfl gcR_4 (by decide) (by decide +kernel) (Nat.le_of_ble_eq_true rfl) ?_
      refine gi_top (hI5 j (by omega)).2 ?_
      refine lf_iload_n d_A_nodeOf_33 rfl rfl ?_
      refine gi_icmp_ne d_A_nodeOf_34 (tgt := 41) (by decide) (by omega) (fun hb34 => ?_) (fun hb34 => ?_)
      · refine gi_iincN d_A_nodeOf_41 rfl (by decide +kernel) (L2 := [(3, _), (0, _), (1, _), (2, _)]) rfl ?_
        refine lf_goto d_A_nodeOf_44 (tgt := 5) (by decide) ?_
        exact ih (j + 1) (by omega) (by omega)
      · refine lf_iconst d_A_nodeOf_37 (v := Int32.ofInt ((2 : Nat) : Int)) rfl ?_
        refine lf_iload_n d_A_nodeOf_38 rfl rfl ?_
        refine gi_imulN (a := 2) (b := j) d_A_nodeOf_39 ?_
        exact lf_ireturn d_A_nodeOf_40 rfl rfl (hret j hs (by omega) (by omega) (by omega))
theorem a_nodeOf (hx : HX X L9 xs) (hA : clA sh) {s m : Nat} {lo hi : Nat → Nat} (hI : AI I s m lo hi) (hm9 : m < 250) {p q : Nat} (hpp : p < 2 * m) (hqq : q < 2 * m)  : EVi TT cl6 X mi_A_nodeOf 2 [.ref 16, .int (Int32.ofInt ((p : Nat) : Int)), .int (Int32.ofInt ((q : Nat) : Int))] sh I J (fun r I1 J1 => ∃ (m1 r1 : Nat) (lo1 hi1 : Nat → Nat), r = (r1 : Int) ∧ (m1 = m ∨ m1 = m + 1) ∧ r1 < 2 * m1 ∧ AI I1 s m1 lo1 hi1 ∧ (∀ j, j < m → lo1 j = lo j ∧ hi1 j = hi j) ∧ (∀ a q, ¬ a = 31 → ¬ a = 32 → ¬ (a = 16 ∧ q = 5) → I1 a q = I a q) ∧ J1 = J ∧ ∀ src, lit (ndv s lo1 hi1 src m1) r1 = (lit (ndv s lo hi src m) p && lit (ndv s lo hi src m) q)) := by
  have hI0 := hI
  obtain ⟨hI1, hI2, hI3, hI4, hI5, hI6, hI7⟩ := hI
  refine gw_enter (hx_ok hx) (by decide +kernel) (Nat.le_of_ble_eq_true rfl) (L := [(0, _), (1, _), (2, _)]) rfl ?_
  refine lf_aload_n d_A_nodeOf_0 rfl rfl rfl ?_
  refine gi_geti s_A_nodeOf_1 (c_16 hA) rfl ?_
  refine gi_top hI1 ?_
  refine lf_istore_n d_A_nodeOf_4 rfl (by decide +kernel) (L2 := [(3, _), (0, _), (1, _), (2, _)]) rfl ?_
  refine a_nodeOf_l hx hA hI0 hpp hqq (fun j h1 h2 h3 h4 => ?_) ?_ (m - (s + 1)) (s + 1) (by omega) (by omega)
  · refine ⟨_, _, _, rfl, rfl, _, rfl, m, 2 * j, lo, hi, rfl, Or.inl rfl, by omega, hI0, fun _ _ => ⟨rfl, rfl⟩, fun _ _ _ _ _ => rfl, rfl, fun src => ?_⟩
    have h7 := hI7 j h1 h2
    rw [← h3, ← h4, ← ndv_and h1 h2 h7.1 h7.2]
    unfold lit
    rw [show 2 * j / 2 = j by omega, decide_eq_false (show ¬ 2 * j % 2 = 1 by omega)]
    simp
  refine lf_aload_n d_A_nodeOf_47 rfl rfl rfl ?_
  refine gi_getr s_A_nodeOf_48 (c_16 hA) rfl ?_
  refine lf_aload_n d_A_nodeOf_51 rfl rfl rfl ?_
  refine gi_geti s_A_nodeOf_52 (c_16 hA) rfl ?_
  refine gi_top hI2 ?_
  refine lf_iload_n d_A_nodeOf_55 rfl rfl ?_
  refine gw_callV s_A_nodeOf_56 (m_putNumberN hx (c_31 hA) (by omega)) (S := []) rfl rfl gcR_4 (by decide) (by decide +kernel) (Nat.le_of_ble_eq_true rfl) (fun I J w56 => ?_)
  obtain ⟨rfl, rfl⟩ := w56
  refine lf_aload_n d_A_nodeOf_59 rfl rfl rfl ?_
  refine gi_getr s_A_nodeOf_60 (c_16 hA) rfl ?_
  refine lf_aload_n d_A_nodeOf_63 rfl rfl rfl ?_
  refine gi_geti s_A_nodeOf_64 (c_16 hA) rfl ?_
  refine gi_top (show ipt I 31 m p 16 5 = (m : Int) from hI2) ?_
  refine lf_iload_n d_A_nodeOf_67 rfl rfl ?_
  refine gw_callV s_A_nodeOf_68 (m_putNumberN hx (c_32 hA) (by omega)) (S := []) rfl rfl gcR_4 (by decide) (by decide +kernel) (Nat.le_of_ble_eq_true rfl) (fun I J w68 => ?_)
  obtain ⟨rfl, rfl⟩ := w68
  refine lf_aload_n d_A_nodeOf_71 rfl rfl rfl ?_
  refine lf_dup d_A_nodeOf_72 rfl ?_
  refine gi_geti s_A_nodeOf_73 (c_16 hA) rfl ?_
  refine gi_top (show ipt (ipt I 31 m p) 32 m q 16 5 = (m : Int) from hI2) ?_
  refine lf_iconst d_A_nodeOf_76 (v := Int32.ofInt ((1 : Nat) : Int)) rfl ?_
  refine gi_iaddN (a := m) (b := 1) d_A_nodeOf_77 ?_
  refine gi_puti s_A_nodeOf_78 (c_16 hA) rfl ?_
  refine lf_iconst d_A_nodeOf_81 (v := Int32.ofInt ((2 : Nat) : Int)) rfl ?_
  refine lf_aload_n d_A_nodeOf_82 rfl rfl rfl ?_
  refine gi_geti s_A_nodeOf_83 (c_16 hA) rfl ?_
  refine gi_top (show ipt (ipt (ipt I 31 m p) 32 m q) 16 5 ((m + 1 : Nat) : Int) 16 5 = ((m + 1 : Nat) : Int) from ipt_e) ?_
  refine lf_iconst d_A_nodeOf_86 (v := Int32.ofInt ((1 : Nat) : Int)) rfl ?_
  refine gi_isubN (a := (m + 1)) (b := 1) d_A_nodeOf_87 (by omega) ?_
  refine gi_imulN (a := 2) (b := ((m + 1) - 1)) d_A_nodeOf_88 ?_
  refine gw_iret d_A_nodeOf_89 rfl ?_
  refine ⟨rfl, _, rfl, m + 1, 2 * (m + 1 - 1), fun j => if j = m then p else lo j, fun j => if j = m then q else hi j, rfl, Or.inr rfl, by omega, ⟨hI1, ipt_e, by omega, by omega, fun j hj => ?_, fun j hj => ?_, fun j hj hj2 => ?_⟩, fun j hj => ?_, fun a b h1 h2 h3 => ?_, rfl, fun src => ?_⟩
  · show ipt I 31 m (p : Int) 31 j = ((if j = m then p else lo j : Nat) : Int) ∧ ipt (ipt I 31 m (p : Int)) 32 m (q : Int) 32 j = ((if j = m then q else hi j : Nat) : Int)
    rw [ipt_s, ipt_s, ipt_o (by decide)]
    by_cases e : j = m
    · rw [if_pos e, if_pos e, if_pos e, if_pos e]; exact ⟨rfl, rfl⟩
    · rw [if_neg e, if_neg e, if_neg e, if_neg e]; exact hI5 j (by omega)
  · dsimp only
    rw [if_neg (by omega), if_neg (by omega)]; exact hI6 j hj
  · dsimp only
    by_cases e : j = m
    · rw [if_pos e, if_pos e]; exact ⟨by omega, by omega⟩
    · rw [if_neg e, if_neg e]; exact hI7 j hj (by omega)
  · dsimp only
    rw [if_neg (by omega), if_neg (by omega)]; exact ⟨rfl, rfl⟩
  · by_cases e : a = 16
    · subst e
      rw [ipt_s, if_neg (fun z => h3 ⟨rfl, z⟩), ipt_o h2, ipt_o h1]
    · rw [ipt_o e, ipt_o h2, ipt_o h1]
  · have e1 : ∀ x, x < 2 * m → lit (ndv s (fun j => if j = m then p else lo j) (fun j => if j = m then q else hi j) src (m + 1)) x = lit (ndv s lo hi src m) x := fun x hx2 => by
      rw [lit_st hx2 (Nat.le_succ m), ndv_cg (lo1 := lo) (hi1 := hi) (fun j hj => ?_)]
      rw [if_neg (by omega), if_neg (by omega)]; exact ⟨rfl, rfl⟩
    rw [← e1 p hpp, ← e1 q hqq]
    have e2 := ndv_and (s := s) (lo := fun j => if j = m then p else lo j) (hi := fun j => if j = m then q else hi j) (src := src) (m := m + 1) (j := m) (by omega) (by omega) (by rw [if_pos rfl]; exact hpp) (by rw [if_pos rfl]; exact hqq)
    rw [if_pos rfl, if_pos rfl] at e2
    rw [← e2]
    conv => lhs; unfold lit
    rw [show 2 * (m + 1 - 1) / 2 = m by omega, decide_eq_false (show ¬ 2 * (m + 1 - 1) % 2 = 1 by omega)]
    simp
end AT1
