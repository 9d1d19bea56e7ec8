section ST2
variable {X : XT} {L9 : Nat} {xs : Nat → Int32} {sh : sM} {I : mI} {J : mJ}

variable {D : mF} {P : Option Value → mF → Prop} {PX : String → mF → Prop} {kc ks : Nat}

theorem bz_r2 {p q : Prop} [Decidable p] [Decidable q] : -2147483648 ≤ (if p then 1 else 0 : Int) ∧ (if p then 1 else 0 : Int) < 2147483648 ∧ -2147483648 ≤ (if q then 1 else 0 : Int) ∧ (if q then 1 else 0 : Int) < 2147483648 := by
  rcases bz_in (p := p) with e | e <;> rcases bz_in (p := q) with f | f <;> omega
theorem bz_r1 {p : Prop} [Decidable p] : -2147483648 ≤ (if p then 1 else 0 : Int) ∧ (if p then 1 else 0 : Int) < 2147483648 := by
  rcases bz_in (p := p) with e | e <;> omega
theorem bz_eq {x y : Bool} : (if x = true then 1 else 0 : Int) = (if y = true then 1 else 0) ↔ x = y := by cases x <;> cases y <;> decide
theorem mir_mir : ∀ s, s < 8 → ∀ c, c < 2 ^ s → mir s (mir s c) = c := by decide +kernel
theorem pow2_7 {s : Nat} (h : s ≤ 7) : 2 ^ s ≤ 128 := Nat.pow_le_pow_right (n := 2) (by decide) h
theorem s64 {s w : Nat} (hsw : (s ≤ 6 ∧ w = 1) ∨ (s = 7 ∧ w = 2)) : 2 ^ s ≤ 64 * w := by
  rcases hsw with ⟨h, rfl⟩ | ⟨rfl, rfl⟩
  · exact Nat.pow_le_pow_right (n := 2) (by decide) h
  · decide
def hbit (J : mJ) (w s a c : Nat) : Bool := lb (J 26 (a * w + mir s c / 64)) (mir s c % 64)
/-- no choice tells the lines apart -/
theorem same_iff {s w a b : Nat} (hsw : (s ≤ 6 ∧ w = 1) ∨ (s = 7 ∧ w = 2)) (hkz : ∀ i, 2 ^ s ≤ i → i < 64 * w → kbit J i = false) :
    (∀ i, i < 64 * w → dbit J w a b false i = false) ↔ ∀ c, c < 2 ^ s → kbit J (mir s c) = true → hbit J w s a c = hbit J w s b c := by
  have hs7 : s < 8 := by omega
  have h64 := s64 hsw
  refine ⟨fun h c hc hk => ?_, fun h i hi => ?_⟩
  · have hm := mir_lt (s := s) (c := c) (by omega)
    have e := h (mir s c) (by omega)
    unfold dbit at e
    rw [hk] at e
    unfold hbit
    revert e
    cases lb (J 26 (a * w + mir s c / 64)) (mir s c % 64) <;> cases lb (J 26 (b * w + mir s c / 64)) (mir s c % 64) <;> simp
  · rcases Nat.lt_or_ge i (2 ^ s) with q | q
    · have hm := mir_lt (s := s) (c := i) (by omega)
      have e := h (mir s i) hm
      unfold hbit at e
      rw [mir_mir s hs7 i q] at e
      unfold dbit
      cases hk : kbit J i with
      | false => rw [Bool.and_false]
      | true =>
        rw [e hk]
        cases lb (J 26 (b * w + i / 64)) (i % 64) <;> rfl
    · unfold dbit
      rw [hkz i q hi, Bool.and_false]
theorem FDq_ex {w a b : Nat} {inv : Bool} : ∃ r : Int, FDq J w a b inv r := by
  have : ∀ n, (∀ i, i < n → dbit J w a b inv i = false) ∨ ∃ i, i < n ∧ dbit J w a b inv i = true ∧ ∀ j, j < i → dbit J w a b inv j = false := by
    intro n
    induction n with
    | zero => exact Or.inl (fun i hi => absurd hi (Nat.not_lt_zero i))
    | succ n ih =>
      rcases ih with h | ⟨i, h1, h2, h3⟩
      · cases e : dbit J w a b inv n with
        | false =>
          refine Or.inl (fun i hi => ?_)
          rcases Nat.lt_or_ge i n with q | q
          · exact h i q
          · rw [show i = n by omega]; exact e
        | true => exact Or.inr ⟨n, by omega, e, h⟩
      · exact Or.inr ⟨i, by omega, h2, h3⟩
  rcases this (64 * w) with h | ⟨i, h1, h2, h3⟩
  · exact ⟨-1, Or.inl ⟨rfl, h⟩⟩
  · exact ⟨i, Or.inr ⟨i, h1, rfl, h2, h3⟩⟩
theorem s_compare_n0 (hx : HX X L9 xs) (hS : clS sh) {n w s : Nat} (hV : clV sh n w) (hn2 : n ≤ 80) (hs : I 15 1 = s) (hw : I 15 2 = w) (hsw : (s ≤ 6 ∧ w = 1) ∨ (s = 7 ∧ w = 2)) {a b : Nat} (ha : a < n) (hb : b < n) (hnd : ∀ i, i < 64 * w → dbit J w a b false i = false) : EVv TT cl6 X mi_S_compare 4 [.ref 17, .int (Int32.ofInt ((a : Nat) : Int)), .int (Int32.ofInt ((b : Nat) : Int)), .int (Int32.ofInt ((0 : Nat) : Int))] sh I J (fun I1 J1 => I1 = ipt (ipt I 17 8 (-1)) 17 7 ((1 + cbr (fun i => !lfb J w a b false i) 1 (2 ^ s) : Nat) : Int) ∧ J1 = J) := by
  have h64 := s64 hsw
  have h20 := Nat.two_pow_pos s
  refine gw_enter (hx_ok hx) (by decide +kernel) (Nat.le_of_ble_eq_true rfl) (L := [(0, _), (1, _), (2, _), (3, _)]) rfl ?_
  refine lf_aload_n d_S_compare_0 rfl rfl rfl ?_
  refine lf_iload_n d_S_compare_1 rfl rfl ?_
  refine lf_iload_n d_S_compare_2 rfl rfl ?_
  refine lf_iload_n d_S_compare_3 rfl rfl ?_
  refine gw_callP s_S_compare_4 (s_firstDifference0 hx hS hV hn2 hs hw hsw ha hb (Or.inl ⟨rfl, hnd⟩)) (S := []) rfl rfl (gcR_2 (c_17 hS)) (by decide) (by decide +kernel) (Nat.le_of_ble_eq_true rfl) ?_
  refine lf_istore d_S_compare_7 (by decide +kernel) (L2 := [(4, _), (0, _), (1, _), (2, _), (3, _)]) rfl ?_
  refine lf_iload d_S_compare_9 rfl ?_
  refine gi_if_ge d_S_compare_11 (tgt := 43) (by decide) (by omega) (fun hb11 => False.elim (by omega)) (fun hb11 => ?_)
  refine lf_aload_n d_S_compare_14 rfl rfl rfl ?_
  refine lf_iconst d_S_compare_15 (v := Int32.ofInt (-1)) rfl ?_
  refine gi_puti s_S_compare_16 (c_17 hS) rfl ?_
  refine lf_aload_n d_S_compare_19 rfl rfl rfl ?_
  refine lf_iconst d_S_compare_20 (v := Int32.ofInt ((1 : Nat) : Int)) rfl ?_
  refine lf_aload_n d_S_compare_21 rfl rfl rfl ?_
  refine lf_iload_n d_S_compare_22 rfl rfl ?_
  refine lf_iload_n d_S_compare_23 rfl rfl ?_
  refine lf_iload_n d_S_compare_24 rfl rfl ?_
  refine lf_iconst d_S_compare_25 (v := Int32.ofInt ((1 : Nat) : Int)) rfl ?_
  refine lf_iconst d_S_compare_26 (v := Int32.ofInt ((1 : Nat) : Int)) rfl ?_
  refine lf_aload_n d_S_compare_27 rfl rfl rfl ?_
  refine gi_getr s_S_compare_28 (c_17 hS) rfl ?_
  refine gi_geti s_S_compare_31 (c_15 hV) rfl ?_
  refine gi_top hs ?_
  refine gi_ishlN (a := 1) (s := s) d_S_compare_34 (by omega) ?_
  refine gi_top (show ((1 * 2 ^ s : Nat) : Int) = ((2 ^ s : Nat) : Int) from by rw [Nat.one_mul]) ?_
  refine gw_callP s_S_compare_35 (s_openBetween0 (I := ipt I 17 8 (-1)) hx hS hV hn2 hs hw hsw ha hb (fr := 1) (to := 2 ^ s) (by omega) h64) (S := [_, _]) rfl rfl (gcR_2 (c_17 hS)) (by decide) (by decide +kernel) (Nat.le_of_ble_eq_true rfl) ?_
  refine gi_iaddN (a := 1) (b := (cbr (fun i => !lfb J w a b false i) 1 (2 ^ s))) d_S_compare_38 ?_
  refine gi_puti s_S_compare_39 (c_17 hS) rfl ?_
  refine gw_ret d_S_compare_42 rfl ?_
  exact ⟨rfl, rfl, rfl, rfl⟩
theorem s_compare_l0 (hx : HX X L9 xs) (hS : clS sh) {n w s : Nat} (hV : clV sh n w) (hn2 : n ≤ 80) (hs : I 15 1 = s) (hw : I 15 2 = w) (hsw : (s ≤ 6 ∧ w = 1) ∨ (s = 7 ∧ w = 2)) {a b : Nat} (ha : a < n) (hb : b < n) {i : Nat} (hi : i < 2 ^ s) (k131 : ∀ I1 : mI, ((∀ x q, ¬ (x = 17 ∧ (q = 7 ∨ q = 8)) → I1 x q = I x q) ∧ I1 17 8 = ((mir s i : Nat) : Int) ∧ 0 ≤ I1 17 7 ∧ I1 17 7 ≤  64 + 128 * s) → LXf TT cl6 X mi_S_compare (40 + 4) (1000 + 200 * 4) D P PX kc ks 131 [(5, .int (Int32.ofInt ((s : Nat) : Int))), (4, .int (Int32.ofInt ((i : Nat) : Int))), (0, .ref 17), (1, .int (Int32.ofInt ((a : Nat) : Int))), (2, .int (Int32.ofInt ((b : Nat) : Int))), (3, .int (Int32.ofInt ((0 : Nat) : Int)))] [] (hp sh I1 J)) : ∀ (c lev : Nat) (I1 : mI), lev + c = s → ((∀ x q, ¬ (x = 17 ∧ (q = 7 ∨ q = 8)) → I1 x q = I x q) ∧ I1 17 8 = ((mir s i : Nat) : Int) ∧ 0 ≤ I1 17 7 ∧ I1 17 7 ≤  64 + 128 * lev) → LXf TT cl6 X mi_S_compare (40 + 4) (1000 + 200 * 4) D P PX kc ks 69 [(5, .int (Int32.ofInt ((lev : Nat) : Int))), (4, .int (Int32.ofInt ((i : Nat) : Int))), (0, .ref 17), (1, .int (Int32.ofInt ((a : Nat) : Int))), (2, .int (Int32.ofInt ((b : Nat) : Int))), (3, .int (Int32.ofInt ((0 : Nat) : Int)))] [] (hp sh I1 J) := by
  have h64 := s64 hsw
  have hs7 : s ≤ 7 := by omega
  have hw2 : w ≤ 2 := by omega
  intro c
  induction c with
  | zero =>
    intro lev I1 hl hI
    obtain rfl : lev = s := by omega
    have hs1 : I1 15 1 = (lev : Int) := by rw [hI.1 15 1 (by omega)]; exact hs
    refine lf_iload d_S_compare_69 rfl ?_
    refine lf_aload_n d_S_compare_71 rfl rfl rfl ?_
    refine gi_getr s_S_compare_72 (c_17 hS) rfl ?_
    refine gi_geti s_S_compare_75 (c_15 hV) rfl ?_
    refine gi_top hs1 ?_
    refine gi_icmp_ge d_S_compare_78 (tgt := 131) (by decide) (by omega) (fun hb78 => ?_) (fun hb78 => False.elim (by omega))
    exact k131 I1 hI
  | succ c ih =>
    intro lev I1 hl hI
    have hs1 : I1 15 1 = (s : Int) := by rw [hI.1 15 1 (by omega)]; exact hs
    have hw1 : I1 15 2 = (w : Int) := by rw [hI.1 15 2 (by omega)]; exact hw
    have hd : i / 2 ^ (s - lev) < 2 ^ lev := by
      rw [Nat.div_lt_iff_lt_mul (Nat.two_pow_pos _), ← Nat.pow_add, show lev + (s - lev) = s by omega]
      exact hi
    have hpl : 2 ^ lev + 2 ^ lev ≤ 2 ^ s := by
      rw [← Nat.two_mul, Nat.mul_comm, ← Nat.pow_succ]
      exact Nat.pow_le_pow_right (n := 2) (by decide) (by omega)
    have h128 := pow2_7 hs7
    have hcb : cbr (fun i => !lfb J w a b false i) (2 ^ lev) (2 ^ lev + i / 2 ^ (s - lev)) ≤ 128 := Nat.le_trans (cb_le _) (by omega)
    refine lf_iload d_S_compare_69 rfl ?_
    refine lf_aload_n d_S_compare_71 rfl rfl rfl ?_
    refine gi_getr s_S_compare_72 (c_17 hS) rfl ?_
    refine gi_geti s_S_compare_75 (c_15 hV) rfl ?_
    refine gi_top hs1 ?_
    refine gi_icmp_ge d_S_compare_78 (tgt := 131) (by decide) (by omega) (fun hb78 => False.elim (by omega)) (fun hb78 => ?_)
    refine lf_iconst d_S_compare_81 (v := Int32.ofInt ((1 : Nat) : Int)) rfl ?_
    refine lf_iload d_S_compare_82 rfl ?_
    refine gi_ishlN (a := 1) (s := lev) d_S_compare_84 (by omega) ?_
    refine gi_top (show ((1 * 2 ^ lev : Nat) : Int) = ((2 ^ lev : Nat) : Int) from by rw [Nat.one_mul]) ?_
    refine lf_istore d_S_compare_85 (by decide +kernel) (L2 := [(6, _), (5, _), (4, _), (0, _), (1, _), (2, _), (3, _)]) rfl ?_
    refine lf_iload d_S_compare_87 rfl ?_
    refine lf_iload d_S_compare_89 rfl ?_
    refine lf_aload_n d_S_compare_91 rfl rfl rfl ?_
    refine gi_getr s_S_compare_92 (c_17 hS) rfl ?_
    refine gi_geti s_S_compare_95 (c_15 hV) rfl ?_
    refine gi_top hs1 ?_
    refine lf_iload d_S_compare_98 rfl ?_
    refine gi_isubN (a := s) (b := lev) d_S_compare_100 (by omega) ?_
    refine gi_ishrN (a := i) (s := (s - lev)) d_S_compare_101 (by omega) (by omega) ?_
    refine gi_iaddN (a := (2 ^ lev)) (b := (i / 2 ^ (s - lev))) d_S_compare_102 ?_
    refine lf_istore d_S_compare_103 (by decide +kernel) (L2 := [(7, _), (6, _), (5, _), (4, _), (0, _), (1, _), (2, _), (3, _)]) rfl ?_
    refine lf_aload_n d_S_compare_105 rfl rfl rfl ?_
    refine lf_dup d_S_compare_106 rfl ?_
    refine gi_geti s_S_compare_107 (c_17 hS) rfl ?_
    refine lf_aload_n d_S_compare_110 rfl rfl rfl ?_
    refine lf_iload_n d_S_compare_111 rfl rfl ?_
    refine lf_iload_n d_S_compare_112 rfl rfl ?_
    refine lf_iload_n d_S_compare_113 rfl rfl ?_
    refine lf_iload d_S_compare_114 rfl ?_
    refine lf_iload d_S_compare_116 rfl ?_
    refine gw_callP s_S_compare_118 (s_openBetween0 hx hS hV hn2 hs1 hw1 hsw ha hb (fr := 2 ^ lev) (to := 2 ^ lev + i / 2 ^ (s - lev)) (Nat.le_add_right _ _) (by omega)) (S := [_, _]) rfl rfl (gcR_2 (c_17 hS)) (by decide) (by decide +kernel) (Nat.le_of_ble_eq_true rfl) ?_
    refine gi_iadd d_S_compare_121 ?_
    refine gi_puti s_S_compare_122 (c_17 hS) rfl ?_
    refine gi_iincN d_S_compare_125 rfl (by decide +kernel) (L2 := [(5, _), (7, _), (6, _), (4, _), (0, _), (1, _), (2, _), (3, _)]) rfl ?_
    refine lf_goto d_S_compare_128 (tgt := 69) (by decide) ?_
    refine lf_sub [0, 3, 4, 5, 6, 7] rfl ?_
    refine ih (lev + 1) _ (by omega) ⟨fun x q hq => ?_, ?_, ?_, ?_⟩
    · by_cases e : x = 17
      · subst e
        rw [ipt_s, if_neg (fun z => hq ⟨rfl, Or.inl z⟩)]
        exact hI.1 17 q hq
      · rw [ipt_o e]
        exact hI.1 x q hq
    · exact hI.2.1
    · rw [ipt_e]; have := hI.2.2.1; omega
    · rw [ipt_e]; have := hI.2.2.2; omega
theorem s_compare_f0 (hx : HX X L9 xs) (hS : clS sh) {n w s : Nat} (hV : clV sh n w) (hn2 : n ≤ 80) (hs : I 15 1 = s) (hw : I 15 2 = w) (hsw : (s ≤ 6 ∧ w = 1) ∨ (s = 7 ∧ w = 2)) {a b : Nat} (ha : a < n) (hb : b < n) {i : Nat} (hi : i < 2 ^ s) (hi2 : dbit J w a b false i = true) (hi3 : ∀ j, j < i → dbit J w a b false j = false) : EVv TT cl6 X mi_S_compare 4 [.ref 17, .int (Int32.ofInt ((a : Nat) : Int)), .int (Int32.ofInt ((b : Nat) : Int)), .int (Int32.ofInt ((0 : Nat) : Int))] sh I J (fun I1 J1 => ((∀ x q, ¬ (x = 17 ∧ (q = 7 ∨ q = 8)) → I1 x q = I x q) ∧ I1 17 8 = ((mir s i : Nat) : Int) ∧ 0 ≤ I1 17 7 ∧ I1 17 7 ≤  20000) ∧ J1 = J) := by
  have h64 := s64 hsw
  have hs7 : s ≤ 7 := by omega
  refine gw_enter (hx_ok hx) (by decide +kernel) (Nat.le_of_ble_eq_true rfl) (L := [(0, _), (1, _), (2, _), (3, _)]) rfl ?_
  refine lf_aload_n d_S_compare_0 rfl rfl rfl ?_
  refine lf_iload_n d_S_compare_1 rfl rfl ?_
  refine lf_iload_n d_S_compare_2 rfl rfl ?_
  refine lf_iload_n d_S_compare_3 rfl rfl ?_
  refine gw_callP s_S_compare_4 (s_firstDifference0 hx hS hV hn2 hs hw hsw ha hb (Or.inr ⟨i, by omega, rfl, hi2, hi3⟩)) (S := []) rfl rfl (gcR_2 (c_17 hS)) (by decide) (by decide +kernel) (Nat.le_of_ble_eq_true rfl) ?_
  refine lf_istore d_S_compare_7 (by decide +kernel) (L2 := [(4, _), (0, _), (1, _), (2, _), (3, _)]) rfl ?_
  refine lf_iload d_S_compare_9 rfl ?_
  refine gi_if_ge d_S_compare_11 (tgt := 43) (by decide) (by omega) (fun hb11 => ?_) (fun hb11 => False.elim (by omega))
  refine lf_aload_n d_S_compare_43 rfl rfl rfl ?_
  refine lf_aload_n d_S_compare_44 rfl rfl rfl ?_
  refine gi_getr s_S_compare_45 (c_17 hS) rfl ?_
  refine lf_iload d_S_compare_48 rfl ?_
  refine gw_callP s_S_compare_50 (v_mirrored hx hV hs (by omega)) (S := [_]) rfl rfl (gcR_2 (c_15 hV)) (by decide) (by decide +kernel) (Nat.le_of_ble_eq_true rfl) ?_
  refine gi_puti s_S_compare_53 (c_17 hS) rfl ?_
  refine lf_aload_n d_S_compare_56 rfl rfl rfl ?_
  refine lf_iload d_S_compare_57 rfl ?_
  refine lf_i2l d_S_compare_59 ?_
  refine gw_callP s_S_compare_60 (m_bitCount hx) (S := [_]) rfl rfl gcR_1 (by decide) (by decide +kernel) (Nat.le_of_ble_eq_true rfl) ?_
  refine gi_puti s_S_compare_63 (c_17 hS) rfl ?_
  refine lf_iconst d_S_compare_66 (v := Int32.ofInt ((0 : Nat) : Int)) rfl ?_
  refine lf_istore d_S_compare_67 (by decide +kernel) (L2 := [(5, _), (4, _), (0, _), (1, _), (2, _), (3, _)]) rfl ?_
  have hcb : ∀ x : Int64, cb (lb x) 64 ≤ 64 := fun x => cb_le _
  refine s_compare_l0 (J := J) hx hS hV hn2 hs hw hsw ha hb hi (fun I1 hI => ?_) s 0 _ (by omega) ⟨fun x q hq => ?_, ?_, ?_, ?_⟩
  · refine gw_ret d_S_compare_131 rfl ?_
    exact ⟨rfl, rfl, ⟨hI.1, hI.2.1, hI.2.2.1, by have := hI.2.2.2; omega⟩, rfl⟩
  · by_cases e : x = 17
    · subst e
      rw [ipt_s, if_neg (fun z => hq ⟨rfl, Or.inl z⟩), ipt_s, if_neg (fun z => hq ⟨rfl, Or.inr z⟩)]
    · rw [ipt_o e, ipt_o e]
  · rfl
  · rw [ipt_e]; omega
  · rw [ipt_e]; have := hcb ((Int32.ofInt (i : Int)).toInt64); omega
theorem s_compare_n1 (hx : HX X L9 xs) (hS : clS sh) {n w s : Nat} (hV : clV sh n w) (hn2 : n ≤ 80) (hs : I 15 1 = s) (hw : I 15 2 = w) (hsw : (s ≤ 6 ∧ w = 1) ∨ (s = 7 ∧ w = 2)) {a b : Nat} (ha : a < n) (hb : b < n) (hnd : ∀ i, i < 64 * w → dbit J w a b true i = false) : EVv TT cl6 X mi_S_compare 4 [.ref 17, .int (Int32.ofInt ((a : Nat) : Int)), .int (Int32.ofInt ((b : Nat) : Int)), .int (Int32.ofInt ((1 : Nat) : Int))] sh I J (fun I1 J1 => I1 = ipt (ipt I 17 8 (-1)) 17 7 ((1 + cbr (fun i => !lfb J w a b true i) 1 (2 ^ s) : Nat) : Int) ∧ J1 = J) := by
  have h64 := s64 hsw
  have h20 := Nat.two_pow_pos s
  refine gw_enter (hx_ok hx) (by decide +kernel) (Nat.le_of_ble_eq_true rfl) (L := [(0, _), (1, _), (2, _), (3, _)]) rfl ?_
  refine lf_aload_n d_S_compare_0 rfl rfl rfl ?_
  refine lf_iload_n d_S_compare_1 rfl rfl ?_
  refine lf_iload_n d_S_compare_2 rfl rfl ?_
  refine lf_iload_n d_S_compare_3 rfl rfl ?_
  refine gw_callP s_S_compare_4 (s_firstDifference1 hx hS hV hn2 hs hw hsw ha hb (Or.inl ⟨rfl, hnd⟩)) (S := []) rfl rfl (gcR_2 (c_17 hS)) (by decide) (by decide +kernel) (Nat.le_of_ble_eq_true rfl) ?_
  refine lf_istore d_S_compare_7 (by decide +kernel) (L2 := [(4, _), (0, _), (1, _), (2, _), (3, _)]) rfl ?_
  refine lf_iload d_S_compare_9 rfl ?_
  refine gi_if_ge d_S_compare_11 (tgt := 43) (by decide) (by omega) (fun hb11 => False.elim (by omega)) (fun hb11 => ?_)
  refine lf_aload_n d_S_compare_14 rfl rfl rfl ?_
  refine lf_iconst d_S_compare_15 (v := Int32.ofInt (-1)) rfl ?_
  refine gi_puti s_S_compare_16 (c_17 hS) rfl ?_
  refine lf_aload_n d_S_compare_19 rfl rfl rfl ?_
  refine lf_iconst d_S_compare_20 (v := Int32.ofInt ((1 : Nat) : Int)) rfl ?_
  refine lf_aload_n d_S_compare_21 rfl rfl rfl ?_
  refine lf_iload_n d_S_compare_22 rfl rfl ?_
  refine lf_iload_n d_S_compare_23 rfl rfl ?_
  refine lf_iload_n d_S_compare_24 rfl rfl ?_
  refine lf_iconst d_S_compare_25 (v := Int32.ofInt ((1 : Nat) : Int)) rfl ?_
  refine lf_iconst d_S_compare_26 (v := Int32.ofInt ((1 : Nat) : Int)) rfl ?_
  refine lf_aload_n d_S_compare_27 rfl rfl rfl ?_
  refine gi_getr s_S_compare_28 (c_17 hS) rfl ?_
  refine gi_geti s_S_compare_31 (c_15 hV) rfl ?_
  refine gi_top hs ?_
  refine gi_ishlN (a := 1) (s := s) d_S_compare_34 (by omega) ?_
  refine gi_top (show ((1 * 2 ^ s : Nat) : Int) = ((2 ^ s : Nat) : Int) from by rw [Nat.one_mul]) ?_
  refine gw_callP s_S_compare_35 (s_openBetween1 (I := ipt I 17 8 (-1)) hx hS hV hn2 hs hw hsw ha hb (fr := 1) (to := 2 ^ s) (by omega) h64) (S := [_, _]) rfl rfl (gcR_2 (c_17 hS)) (by decide) (by decide +kernel) (Nat.le_of_ble_eq_true rfl) ?_
  refine gi_iaddN (a := 1) (b := (cbr (fun i => !lfb J w a b true i) 1 (2 ^ s))) d_S_compare_38 ?_
  refine gi_puti s_S_compare_39 (c_17 hS) rfl ?_
  refine gw_ret d_S_compare_42 rfl ?_
  exact ⟨rfl, rfl, rfl, rfl⟩
theorem s_compare_l1 (hx : HX X L9 xs) (hS : clS sh) {n w s : Nat} (hV : clV sh n w) (hn2 : n ≤ 80) (hs : I 15 1 = s) (hw : I 15 2 = w) (hsw : (s ≤ 6 ∧ w = 1) ∨ (s = 7 ∧ w = 2)) {a b : Nat} (ha : a < n) (hb : b < n) {i : Nat} (hi : i < 2 ^ s) (k131 : ∀ I1 : mI, ((∀ x q, ¬ (x = 17 ∧ (q = 7 ∨ q = 8)) → I1 x q = I x q) ∧ I1 17 8 = ((mir s i : Nat) : Int) ∧ 0 ≤ I1 17 7 ∧ I1 17 7 ≤  64 + 128 * s) → LXf TT cl6 X mi_S_compare (40 + 4) (1000 + 200 * 4) D P PX kc ks 131 [(5, .int (Int32.ofInt ((s : Nat) : Int))), (4, .int (Int32.ofInt ((i : Nat) : Int))), (0, .ref 17), (1, .int (Int32.ofInt ((a : Nat) : Int))), (2, .int (Int32.ofInt ((b : Nat) : Int))), (3, .int (Int32.ofInt ((1 : Nat) : Int)))] [] (hp sh I1 J)) : ∀ (c lev : Nat) (I1 : mI), lev + c = s → ((∀ x q, ¬ (x = 17 ∧ (q = 7 ∨ q = 8)) → I1 x q = I x q) ∧ I1 17 8 = ((mir s i : Nat) : Int) ∧ 0 ≤ I1 17 7 ∧ I1 17 7 ≤  64 + 128 * lev) → LXf TT cl6 X mi_S_compare (40 + 4) (1000 + 200 * 4) D P PX kc ks 69 [(5, .int (Int32.ofInt ((lev : Nat) : Int))), (4, .int (Int32.ofInt ((i : Nat) : Int))), (0, .ref 17), (1, .int (Int32.ofInt ((a : Nat) : Int))), (2, .int (Int32.ofInt ((b : Nat) : Int))), (3, .int (Int32.ofInt ((1 : Nat) : Int)))] [] (hp sh I1 J) := by
  have h64 := s64 hsw
  have hs7 : s ≤ 7 := by omega
  have hw2 : w ≤ 2 := by omega
  intro c
  induction c with
  | zero =>
    intro lev I1 hl hI
    obtain rfl : lev = s := by omega
    have hs1 : I1 15 1 = (lev : Int) := by rw [hI.1 15 1 (by omega)]; exact hs
    refine lf_iload d_S_compare_69 rfl ?_
    refine lf_aload_n d_S_compare_71 rfl rfl rfl ?_
    refine gi_getr s_S_compare_72 (c_17 hS) rfl ?_
    refine gi_geti s_S_compare_75 (c_15 hV) rfl ?_
    refine gi_top hs1 ?_
    refine gi_icmp_ge d_S_compare_78 (tgt := 131) (by decide) (by omega) (fun hb78 => ?_) (fun hb78 => False.elim (by omega))
    exact k131 I1 hI
  | succ c ih =>
    intro lev I1 hl hI
    have hs1 : I1 15 1 = (s : Int) := by rw [hI.1 15 1 (by omega)]; exact hs
    have hw1 : I1 15 2 = (w : Int) := by rw [hI.1 15 2 (by omega)]; exact hw
    have hd : i / 2 ^ (s - lev) < 2 ^ lev := by
      rw [Nat.div_lt_iff_lt_mul (Nat.two_pow_pos _), ← Nat.pow_add, show lev + (s - lev) = s by omega]
      exact hi
    have hpl : 2 ^ lev + 2 ^ lev ≤ 2 ^ s := by
      rw [← Nat.two_mul, Nat.mul_comm, ← Nat.pow_succ]
      exact Nat.pow_le_pow_right (n := 2) (by decide) (by omega)
    have h128 := pow2_7 hs7
    have hcb : cbr (fun i => !lfb J w a b true i) (2 ^ lev) (2 ^ lev + i / 2 ^ (s - lev)) ≤ 128 := Nat.le_trans (cb_le _) (by omega)
    refine lf_iload d_S_compare_69 rfl ?_
    refine lf_aload_n d_S_compare_71 rfl rfl rfl ?_
    refine gi_getr s_S_compare_72 (c_17 hS) rfl ?_
    refine gi_geti s_S_compare_75 (c_15 hV) rfl ?_
    refine gi_top hs1 ?_
    refine gi_icmp_ge d_S_compare_78 (tgt := 131) (by decide) (by omega) (fun hb78 => False.elim (by omega)) (fun hb78 => ?_)
    refine lf_iconst d_S_compare_81 (v := Int32.ofInt ((1 : Nat) : Int)) rfl ?_
    refine lf_iload d_S_compare_82 rfl ?_
    refine gi_ishlN (a := 1) (s := lev) d_S_compare_84 (by omega) ?_
    refine gi_top (show ((1 * 2 ^ lev : Nat) : Int) = ((2 ^ lev : Nat) : Int) from by rw [Nat.one_mul]) ?_
    refine lf_istore d_S_compare_85 (by decide +kernel) (L2 := [(6, _), (5, _), (4, _), (0, _), (1, _), (2, _), (3, _)]) rfl ?_
    refine lf_iload d_S_compare_87 rfl ?_
    refine lf_iload d_S_compare_89 rfl ?_
    refine lf_aload_n d_S_compare_91 rfl rfl rfl ?_
    refine gi_getr s_S_compare_92 (c_17 hS) rfl ?_
    refine gi_geti s_S_compare_95 (c_15 hV) rfl ?_
    refine gi_top hs1 ?_
    refine lf_iload d_S_compare_98 rfl ?_
    refine gi_isubN (a := s) (b := lev) d_S_compare_100 (by omega) ?_
    refine gi_ishrN (a := i) (s := (s - lev)) d_S_compare_101 (by omega) (by omega) ?_
    refine gi_iaddN (a := (2 ^ lev)) (b := (i / 2 ^ (s - lev))) d_S_compare_102 ?_
    refine lf_istore d_S_compare_103 (by decide +kernel) (L2 := [(7, _), (6, _), (5, _), (4, _), (0, _), (1, _), (2, _), (3, _)]) rfl ?_
    refine lf_aload_n d_S_compare_105 rfl rfl rfl ?_
    refine lf_dup d_S_compare_106 rfl ?_
    refine gi_geti s_S_compare_107 (c_17 hS) rfl ?_
    refine lf_aload_n d_S_compare_110 rfl rfl rfl ?_
    refine lf_iload_n d_S_compare_111 rfl rfl ?_
    refine lf_iload_n d_S_compare_112 rfl rfl ?_
    refine lf_iload_n d_S_compare_113 rfl rfl ?_
    refine lf_iload d_S_compare_114 rfl ?_
    refine lf_iload d_S_compare_116 rfl ?_
    refine gw_callP s_S_compare_118 (s_openBetween1 hx hS hV hn2 hs1 hw1 hsw ha hb (fr := 2 ^ lev) (to := 2 ^ lev + i / 2 ^ (s - lev)) (Nat.le_add_right _ _) (by omega)) (S := [_, _]) rfl rfl (gcR_2 (c_17 hS)) (by decide) (by decide +kernel) (Nat.le_of_ble_eq_true rfl) ?_
    refine gi_iadd d_S_compare_121 ?_
    refine gi_puti s_S_compare_122 (c_17 hS) rfl ?_
    refine gi_iincN d_S_compare_125 rfl (by decide +kernel) (L2 := [(5, _), (7, _), (6, _), (4, _), (0, _), (1, _), (2, _), (3, _)]) rfl ?_
    refine lf_goto d_S_compare_128 (tgt := 69) (by decide) ?_
    refine lf_sub [0, 3, 4, 5, 6, 7] rfl ?_
    refine ih (lev + 1) _ (by omega) ⟨fun x q hq => ?_, ?_, ?_, ?_⟩
    · by_cases e : x = 17
      · subst e
        rw [ipt_s, if_neg (fun z => hq ⟨rfl, Or.inl z⟩)]
        exact hI.1 17 q hq
      · rw [ipt_o e]
        exact hI.1 x q hq
    · exact hI.2.1
    · rw [ipt_e]; have := hI.2.2.1; omega
    · rw [ipt_e]; have := hI.2.2.2; omega
theorem s_compare_f1 (hx : HX X L9 xs) (hS : clS sh) {n w s : Nat} (hV : clV sh n w) (hn2 : n ≤ 80) (hs : I 15 1 = s) (hw : I 15 2 = w) (hsw : (s ≤ 6 ∧ w = 1) ∨ (s = 7 ∧ w = 2)) {a b : Nat} (ha : a < n) (hb : b < n) {i : Nat} (hi : i < 2 ^ s) (hi2 : dbit J w a b true i = true) (hi3 : ∀ j, j < i → dbit J w a b true j = false) : EVv TT cl6 X mi_S_compare 4 [.ref 17, .int (Int32.ofInt ((a : Nat) : Int)), .int (Int32.ofInt ((b : Nat) : Int)), .int (Int32.ofInt ((1 : Nat) : Int))] sh I J (fun I1 J1 => ((∀ x q, ¬ (x = 17 ∧ (q = 7 ∨ q = 8)) → I1 x q = I x q) ∧ I1 17 8 = ((mir s i : Nat) : Int) ∧ 0 ≤ I1 17 7 ∧ I1 17 7 ≤  20000) ∧ J1 = J) := by
  have h64 := s64 hsw
  have hs7 : s ≤ 7 := by omega
  refine gw_enter (hx_ok hx) (by decide +kernel) (Nat.le_of_ble_eq_true rfl) (L := [(0, _), (1, _), (2, _), (3, _)]) rfl ?_
  refine lf_aload_n d_S_compare_0 rfl rfl rfl ?_
  refine lf_iload_n d_S_compare_1 rfl rfl ?_
  refine lf_iload_n d_S_compare_2 rfl rfl ?_
  refine lf_iload_n d_S_compare_3 rfl rfl ?_
  refine gw_callP s_S_compare_4 (s_firstDifference1 hx hS hV hn2 hs hw hsw ha hb (Or.inr ⟨i, by omega, rfl, hi2, hi3⟩)) (S := []) rfl rfl (gcR_2 (c_17 hS)) (by decide) (by decide +kernel) (Nat.le_of_ble_eq_true rfl) ?_
  refine lf_istore d_S_compare_7 (by decide +kernel) (L2 := [(4, _), (0, _), (1, _), (2, _), (3, _)]) rfl ?_
  refine lf_iload d_S_compare_9 rfl ?_
  refine gi_if_ge d_S_compare_11 (tgt := 43) (by decide) (by omega) (fun hb11 => ?_) (fun hb11 => False.elim (by omega))
  refine lf_aload_n d_S_compare_43 rfl rfl rfl ?_
  refine lf_aload_n d_S_compare_44 rfl rfl rfl ?_
  refine gi_getr s_S_compare_45 (c_17 hS) rfl ?_
  refine lf_iload d_S_compare_48 rfl ?_
  refine gw_callP s_S_compare_50 (v_mirrored hx hV hs (by omega)) (S := [_]) rfl rfl (gcR_2 (c_15 hV)) (by decide) (by decide +kernel) (Nat.le_of_ble_eq_true rfl) ?_
  refine gi_puti s_S_compare_53 (c_17 hS) rfl ?_
  refine lf_aload_n d_S_compare_56 rfl rfl rfl ?_
  refine lf_iload d_S_compare_57 rfl ?_
  refine lf_i2l d_S_compare_59 ?_
  refine gw_callP s_S_compare_60 (m_bitCount hx) (S := [_]) rfl rfl gcR_1 (by decide) (by decide +kernel) (Nat.le_of_ble_eq_true rfl) ?_
  refine gi_puti s_S_compare_63 (c_17 hS) rfl ?_
  refine lf_iconst d_S_compare_66 (v := Int32.ofInt ((0 : Nat) : Int)) rfl ?_
  refine lf_istore d_S_compare_67 (by decide +kernel) (L2 := [(5, _), (4, _), (0, _), (1, _), (2, _), (3, _)]) rfl ?_
  have hcb : ∀ x : Int64, cb (lb x) 64 ≤ 64 := fun x => cb_le _
  refine s_compare_l1 (J := J) hx hS hV hn2 hs hw hsw ha hb hi (fun I1 hI => ?_) s 0 _ (by omega) ⟨fun x q hq => ?_, ?_, ?_, ?_⟩
  · refine gw_ret d_S_compare_131 rfl ?_
    exact ⟨rfl, rfl, ⟨hI.1, hI.2.1, hI.2.2.1, by have := hI.2.2.2; omega⟩, rfl⟩
  · by_cases e : x = 17
    · subst e
      rw [ipt_s, if_neg (fun z => hq ⟨rfl, Or.inl z⟩), ipt_s, if_neg (fun z => hq ⟨rfl, Or.inr z⟩)]
    · rw [ipt_o e, ipt_o e]
  · rfl
  · rw [ipt_e]; omega
  · rw [ipt_e]; have := hcb ((Int32.ofInt (i : Int)).toInt64); omega
theorem s_signatureOf (hx : HX X L9 xs) (hS : clS sh) {k : Nat} (hk : k < 80) : EVp TT cl6 X mi_S_signatureOf 1 [.ref 17, .int (Int32.ofInt ((k : Nat) : Int))] sh I J (.long (J 34 k)) := by
  refine gw_enter (hx_ok hx) (by decide +kernel) (Nat.le_of_ble_eq_true rfl) (L := [(0, _), (1, _)]) rfl ?_
  refine lf_aload_n d_S_signatureOf_0 rfl rfl rfl ?_
  refine gi_getr s_S_signatureOf_1 (c_17 hS) rfl ?_
  refine lf_iload_n d_S_signatureOf_4 rfl rfl ?_
  refine gw_callP s_S_signatureOf_5 (m_wordAtN hx (c_34 hS) (by omega)) (S := []) rfl rfl gcR_4 (by decide) (by decide +kernel) (Nat.le_of_ble_eq_true rfl) ?_
  refine gw_lret d_S_signatureOf_8 rfl ?_
  exact ⟨rfl, rfl, rfl, rfl⟩
theorem s_targetOf (hx : HX X L9 xs) (hS : clS sh) {k : Nat} (hk : k < 80) (ht : I 35 k = ((2 * k : Nat) : Int)) : EVp TT cl6 X mi_S_targetOf 1 [.ref 17, .int (Int32.ofInt ((k : Nat) : Int))] sh I J (.int (Int32.ofInt ((2 * k : Nat) : Int))) := by
  refine gw_enter (hx_ok hx) (by decide +kernel) (Nat.le_of_ble_eq_true rfl) (L := [(0, _), (1, _)]) rfl ?_
  refine lf_aload_n d_S_targetOf_0 rfl rfl rfl ?_
  refine gi_getr s_S_targetOf_1 (c_17 hS) rfl ?_
  refine lf_iload_n d_S_targetOf_4 rfl rfl ?_
  refine gw_callP s_S_targetOf_5 (m_numberAtN hx (c_35 hS) (by omega)) (S := []) rfl rfl gcR_4 (by decide) (by decide +kernel) (Nat.le_of_ble_eq_true rfl) ?_
  refine gi_top ht ?_
  refine gw_iret d_S_targetOf_8 rfl ?_
  exact ⟨rfl, rfl, rfl, rfl⟩
theorem s_isMerged (hx : HX X L9 xs) (hS : clS sh) {k : Nat} (hk : k < 80) (ht : I 35 k = ((2 * k : Nat) : Int)) : EVp TT cl6 X mi_S_isMerged 2 [.ref 17, .int (Int32.ofInt ((k : Nat) : Int))] sh I J (.int (Int32.ofInt ((0 : Nat) : Int))) := by
  refine gw_enter (hx_ok hx) (by decide +kernel) (Nat.le_of_ble_eq_true rfl) (L := [(0, _), (1, _)]) rfl ?_
  refine lf_aload_n d_S_isMerged_0 rfl rfl rfl ?_
  refine lf_iload_n d_S_isMerged_1 rfl rfl ?_
  refine gw_callP s_S_isMerged_2 (s_targetOf hx hS hk ht) (S := []) rfl rfl (gcR_2 (c_17 hS)) (by decide) (by decide +kernel) (Nat.le_of_ble_eq_true rfl) ?_
  refine lf_iconst d_S_isMerged_5 (v := Int32.ofInt ((2 : Nat) : Int)) rfl ?_
  refine lf_iload_n d_S_isMerged_6 rfl rfl ?_
  refine gi_imulN (a := 2) (b := k) d_S_isMerged_7 ?_
  refine gi_icmp_eq d_S_isMerged_8 (tgt := 15) (by decide) (by omega) (fun hb8 => ?_) (fun hb8 => False.elim (by omega))
  refine lf_iconst d_S_isMerged_15 (v := Int32.ofInt ((0 : Nat) : Int)) rfl ?_
  refine gw_zret d_S_isMerged_16 rfl (by omega) ?_
  exact ⟨rfl, rfl, rfl, rfl⟩
theorem s_addPattern_l (hN : clN sh) (hx : HX X L9 xs) (hS : clS sh) {n w s : Nat} (hV : clV sh n w) (hn2 : n ≤ 80) (hs : I 15 1 = s) (hw : I 15 2 = w) (hsw : (s ≤ 6 ∧ w = 1) ∨ (s = 7 ∧ w = 2)) (hn : I 1 11 = n) {p c : Nat} (k54 : ∀ J1 : mJ, (∀ a, ¬ a = 34 → J1 a = J a) → LXf TT cl6 X mi_S_addPattern (40 + 3) (1000 + 200 * 3) D P PX kc ks 54 [(3, .int (Int32.ofInt ((n : Nat) : Int))), (2, .int (Int32.ofInt ((p : Nat) : Int))), (0, .ref 17), (1, .int (Int32.ofInt ((c : Nat) : Int)))] [] (hp sh I J1)) : ∀ (d k : Nat) (J1 : mJ), k + d = n → (∀ a, ¬ a = 34 → J1 a = J a) → LXf TT cl6 X mi_S_addPattern (40 + 3) (1000 + 200 * 3) D P PX kc ks 7 [(3, .int (Int32.ofInt ((k : Nat) : Int))), (2, .int (Int32.ofInt ((p : Nat) : Int))), (0, .ref 17), (1, .int (Int32.ofInt ((c : Nat) : Int)))] [] (hp sh I J1) := by
  intro d
  induction d with
  | zero =>
    intro k J1 hk he
    obtain rfl : k = n := by omega
    refine lf_iload_n d_S_addPattern_7 rfl rfl ?_
    refine lf_aload_n d_S_addPattern_8 rfl rfl rfl ?_
    refine gi_getr s_S_addPattern_9 (c_17 hS) rfl ?_
    refine gi_geti s_S_addPattern_12 (c_1 hN) rfl ?_
    refine gi_top hn ?_
    refine gi_icmp_ge d_S_addPattern_15 (tgt := 54) (by decide) (by omega) (fun hb15 => ?_) (fun hb15 => False.elim (by omega))
    exact k54 J1 he
  | succ d ih =>
    intro k J1 hk he
    refine lf_iload_n d_S_addPattern_7 rfl rfl ?_
    refine lf_aload_n d_S_addPattern_8 rfl rfl rfl ?_
    refine gi_getr s_S_addPattern_9 (c_17 hS) rfl ?_
    refine gi_geti s_S_addPattern_12 (c_1 hN) rfl ?_
    refine gi_top hn ?_
    refine gi_icmp_ge d_S_addPattern_15 (tgt := 54) (by decide) (by omega) (fun hb15 => False.elim (by omega)) (fun hb15 => ?_)
    refine lf_aload_n d_S_addPattern_18 rfl rfl rfl ?_
    refine gi_getr s_S_addPattern_19 (c_17 hS) rfl ?_
    refine lf_iload_n d_S_addPattern_22 rfl rfl ?_
    refine lf_iload_n d_S_addPattern_23 rfl rfl ?_
    refine gw_callP s_S_addPattern_24 (v_bitAtChoice hx hV hs hsw hn2 hw (by omega)) (S := []) rfl rfl (gcR_2 (c_15 hV)) (by decide) (by decide +kernel) (Nat.le_of_ble_eq_true rfl) ?_
    refine lf_i2l d_S_addPattern_27 ?_
    refine lf_lstore d_S_addPattern_28 (by decide +kernel) (L2 := [(4, _), (3, _), (2, _), (0, _), (1, _)]) rfl ?_
    refine lf_aload_n d_S_addPattern_30 rfl rfl rfl ?_
    refine gi_getr s_S_addPattern_31 (c_17 hS) rfl ?_
    refine lf_iload_n d_S_addPattern_34 rfl rfl ?_
    refine lf_aload_n d_S_addPattern_35 rfl rfl rfl ?_
    refine lf_iload_n d_S_addPattern_36 rfl rfl ?_
    refine gw_callP s_S_addPattern_37 (s_signatureOf hx hS (by omega)) (S := [_, _]) rfl rfl (gcR_2 (c_17 hS)) (by decide) (by decide +kernel) (Nat.le_of_ble_eq_true rfl) ?_
    refine lf_lload d_S_addPattern_40 rfl ?_
    refine lf_iload_n d_S_addPattern_42 rfl rfl ?_
    refine lf_lshl d_S_addPattern_43 ?_
    refine lf_lor d_S_addPattern_44 ?_
    refine gw_callV s_S_addPattern_45 (m_putWordN hx (c_34 hS) (by omega)) (S := []) rfl rfl gcR_4 (by decide) (by decide +kernel) (Nat.le_of_ble_eq_true rfl) (fun I J w45 => ?_)
    obtain ⟨rfl, rfl⟩ := w45
    refine gi_iincN d_S_addPattern_48 rfl (by decide +kernel) (L2 := [(3, _), (4, _), (2, _), (0, _), (1, _)]) rfl ?_
    refine lf_goto d_S_addPattern_51 (tgt := 7) (by decide) ?_
    refine lf_sub [0, 2, 3, 4] rfl ?_
    exact ih (k + 1) _ (by omega) (fun a ha => by rw [jpt_o ha]; exact he a ha)
theorem s_addPattern (hN : clN sh) (hx : HX X L9 xs) (hS : clS sh) {n w s : Nat} (hV : clV sh n w) (hn2 : n ≤ 80) (hs : I 15 1 = s) (hw : I 15 2 = w) (hsw : (s ≤ 6 ∧ w = 1) ∨ (s = 7 ∧ w = 2)) (hn : I 1 11 = n) {p c : Nat} (hp : I 17 4 = p) : EVi TT cl6 X mi_S_addPattern 3 [.ref 17, .int (Int32.ofInt ((c : Nat) : Int))] sh I J (fun r I1 J1 => r = (p : Int) ∧ I1 = ipt I 17 4 ((p + 1 : Nat) : Int) ∧ ∀ a, ¬ a = 34 → J1 a = J a) := by
  refine gw_enter (hx_ok hx) (by decide +kernel) (Nat.le_of_ble_eq_true rfl) (L := [(0, _), (1, _)]) rfl ?_
  refine lf_aload_n d_S_addPattern_0 rfl rfl rfl ?_
  refine gi_geti s_S_addPattern_1 (c_17 hS) rfl ?_
  refine gi_top hp ?_
  refine lf_istore_n d_S_addPattern_4 rfl (by decide +kernel) (L2 := [(2, _), (0, _), (1, _)]) rfl ?_
  refine lf_iconst d_S_addPattern_5 (v := Int32.ofInt ((0 : Nat) : Int)) rfl ?_
  refine lf_istore_n d_S_addPattern_6 rfl (by decide +kernel) (L2 := [(3, _), (2, _), (0, _), (1, _)]) rfl ?_
  refine s_addPattern_l hN hx hS hV hn2 hs hw hsw hn (fun J1 he => ?_) n 0 J (by omega) (fun _ _ => rfl)
  refine lf_aload_n d_S_addPattern_54 rfl rfl rfl ?_
  refine lf_iload_n d_S_addPattern_55 rfl rfl ?_
  refine lf_iconst d_S_addPattern_56 (v := Int32.ofInt ((1 : Nat) : Int)) rfl ?_
  refine gi_iaddN (a := p) (b := 1) d_S_addPattern_57 ?_
  refine gi_puti s_S_addPattern_58 (c_17 hS) rfl ?_
  refine lf_iload_n d_S_addPattern_61 rfl rfl ?_
  refine gw_iret d_S_addPattern_62 rfl ?_
  exact ⟨rfl, _, rfl, rfl, rfl, he⟩
theorem s_same_l (hx : HX X L9 xs) (hS : clS sh) {n w s : Nat} (hV : clV sh n w) (hn2 : n ≤ 80) (hs : I 15 1 = s) (hw : I 15 2 = w) (hsw : (s ≤ 6 ∧ w = 1) ∨ (s = 7 ∧ w = 2)) {a b : Nat} (ha : a < n) (hb : b < n) {r : Int} (hr : (r = 1 ∧ ∀ c, c < 2 ^ s → kbit J (mir s c) = true → hbit J w s a c = hbit J w s b c) ∨ (r = 0 ∧ ∃ c, c < 2 ^ s ∧ kbit J (mir s c) = true ∧ ¬ hbit J w s a c = hbit J w s b c)) (hret : P (some (.int (Int32.ofInt (r)))) (hp sh I J)) : ∀ d c : Nat, c + d = 2 ^ s → (∀ e, e < c → kbit J (mir s e) = true → hbit J w s a e = hbit J w s b e) → LXf TT cl6 X mi_S_areSameEverywhere (40 + 3) (1000 + 200 * 3) D P PX kc ks 2 [(3, .int (Int32.ofInt ((c : Nat) : Int))), (0, .ref 17), (1, .int (Int32.ofInt ((a : Nat) : Int))), (2, .int (Int32.ofInt ((b : Nat) : Int)))] [] (hp sh I J) := by
  have h128 := pow2_7 (s := s) (by omega)
  intro d
  induction d with
  | zero =>
    intro c hc hg
    have hr1 : r = 1 := by
      rcases hr with ⟨e, -⟩ | ⟨-, c2, h1, h2, h3⟩
      · exact e
      · exact absurd (hg c2 (by omega) h2) h3
    subst hr1
    refine lf_iload_n d_S_areSameEverywhere_2 rfl rfl ?_
    refine lf_iconst d_S_areSameEverywhere_3 (v := Int32.ofInt ((1 : Nat) : Int)) rfl ?_
    refine lf_aload_n d_S_areSameEverywhere_4 rfl rfl rfl ?_
    refine gi_getr s_S_areSameEverywhere_5 (c_17 hS) rfl ?_
    refine gi_geti s_S_areSameEverywhere_8 (c_15 hV) rfl ?_
    refine gi_top hs ?_
    refine gi_ishlN (a := 1) (s := s) d_S_areSameEverywhere_11 (by omega) ?_
    refine gi_top (show ((1 * 2 ^ s : Nat) : Int) = ((2 ^ s : Nat) : Int) from by rw [Nat.one_mul]) ?_
    refine gi_icmp_ge d_S_areSameEverywhere_12 (tgt := 55) (by decide) (by omega) (fun hb12 => ?_) (fun hb12 => False.elim (by omega))
    refine lf_iconst d_S_areSameEverywhere_55 (v := Int32.ofInt ((1 : Nat) : Int)) rfl ?_
    exact lf_ireturn d_S_areSameEverywhere_56 rfl rfl hret
  | succ d ih =>
    intro c hc hg
    refine lf_iload_n d_S_areSameEverywhere_2 rfl rfl ?_
    refine lf_iconst d_S_areSameEverywhere_3 (v := Int32.ofInt ((1 : Nat) : Int)) rfl ?_
    refine lf_aload_n d_S_areSameEverywhere_4 rfl rfl rfl ?_
    refine gi_getr s_S_areSameEverywhere_5 (c_17 hS) rfl ?_
    refine gi_geti s_S_areSameEverywhere_8 (c_15 hV) rfl ?_
    refine gi_top hs ?_
    refine gi_ishlN (a := 1) (s := s) d_S_areSameEverywhere_11 (by omega) ?_
    refine gi_top (show ((1 * 2 ^ s : Nat) : Int) = ((2 ^ s : Nat) : Int) from by rw [Nat.one_mul]) ?_
    refine gi_icmp_ge d_S_areSameEverywhere_12 (tgt := 55) (by decide) (by omega) (fun hb12 => False.elim (by omega)) (fun hb12 => ?_)
    refine lf_aload_n d_S_areSameEverywhere_15 rfl rfl rfl ?_
    refine gi_getr s_S_areSameEverywhere_16 (c_17 hS) rfl ?_
    refine lf_iload_n d_S_areSameEverywhere_19 rfl rfl ?_
    refine gw_callP s_S_areSameEverywhere_20 (v_isKept hx hV hs hsw) (S := []) rfl rfl (gcR_2 (c_15 hV)) (by decide) (by decide +kernel) (Nat.le_of_ble_eq_true rfl) ?_
    refine gb_if_eq d_S_areSameEverywhere_23 (tgt := 49) (by decide) (fun hb23 => ?_) (fun hb23 => ?_)
    · refine gi_iincN d_S_areSameEverywhere_49 rfl (by decide +kernel) (L2 := [(3, _), (0, _), (1, _), (2, _)]) rfl ?_
      refine lf_goto d_S_areSameEverywhere_52 (tgt := 2) (by decide) ?_
      refine ih (c + 1) (by omega) (fun e he hk => ?_)
      rcases Nat.lt_or_ge e c with q | q
      · exact hg e q hk
      · obtain rfl : e = c := by omega
        first
          | exact absurd hk hb23
          | exact bz_eq.mp hb44
    · refine lf_aload_n d_S_areSameEverywhere_26 rfl rfl rfl ?_
      refine gi_getr s_S_areSameEverywhere_27 (c_17 hS) rfl ?_
      refine lf_iload_n d_S_areSameEverywhere_30 rfl rfl ?_
      refine lf_iload_n d_S_areSameEverywhere_31 rfl rfl ?_
      refine gw_callP s_S_areSameEverywhere_32 (v_bitAtChoice hx hV hs hsw hn2 hw (by omega)) (S := []) rfl rfl (gcR_2 (c_15 hV)) (by decide) (by decide +kernel) (Nat.le_of_ble_eq_true rfl) ?_
      refine lf_aload_n d_S_areSameEverywhere_35 rfl rfl rfl ?_
      refine gi_getr s_S_areSameEverywhere_36 (c_17 hS) rfl ?_
      refine lf_iload_n d_S_areSameEverywhere_39 rfl rfl ?_
      refine lf_iload_n d_S_areSameEverywhere_40 rfl rfl ?_
      refine gw_callP s_S_areSameEverywhere_41 (v_bitAtChoice hx hV hs hsw hn2 hw (by omega)) (S := [_]) rfl rfl (gcR_2 (c_15 hV)) (by decide) (by decide +kernel) (Nat.le_of_ble_eq_true rfl) ?_
      refine gi_icmp_eq d_S_areSameEverywhere_44 (tgt := 49) (by decide) bz_r2 (fun hb44 => ?_) (fun hb44 => ?_)
      · refine gi_iincN d_S_areSameEverywhere_49 rfl (by decide +kernel) (L2 := [(3, _), (0, _), (1, _), (2, _)]) rfl ?_
        refine lf_goto d_S_areSameEverywhere_52 (tgt := 2) (by decide) ?_
        refine ih (c + 1) (by omega) (fun e he hk => ?_)
        rcases Nat.lt_or_ge e c with q | q
        · exact hg e q hk
        · obtain rfl : e = c := by omega
          first
            | exact absurd hk hb23
            | exact bz_eq.mp hb44
      · refine lf_iconst d_S_areSameEverywhere_47 (v := Int32.ofInt ((0 : Nat) : Int)) rfl ?_
        have hr0 : r = 0 := by
          rcases hr with ⟨-, h⟩ | ⟨e, -⟩
          · exact absurd (bz_eq.mpr (h c (by omega) hb23)) hb44
          · exact e
        subst hr0
        exact lf_ireturn d_S_areSameEverywhere_48 rfl rfl hret
theorem s_areSame (hx : HX X L9 xs) (hS : clS sh) {n w s : Nat} (hV : clV sh n w) (hn2 : n ≤ 80) (hs : I 15 1 = s) (hw : I 15 2 = w) (hsw : (s ≤ 6 ∧ w = 1) ∨ (s = 7 ∧ w = 2)) {a b : Nat} (ha : a < n) (hb : b < n) {r : Int} (hr : (r = 1 ∧ ∀ c, c < 2 ^ s → kbit J (mir s c) = true → hbit J w s a c = hbit J w s b c) ∨ (r = 0 ∧ ∃ c, c < 2 ^ s ∧ kbit J (mir s c) = true ∧ ¬ hbit J w s a c = hbit J w s b c))  : EVp TT cl6 X mi_S_areSameEverywhere 3 [.ref 17, .int (Int32.ofInt ((a : Nat) : Int)), .int (Int32.ofInt ((b : Nat) : Int))] sh I J (.int (Int32.ofInt (r))) := by
  refine gw_enter (hx_ok hx) (by decide +kernel) (Nat.le_of_ble_eq_true rfl) (L := [(0, _), (1, _), (2, _)]) rfl ?_
  refine lf_iconst d_S_areSameEverywhere_0 (v := Int32.ofInt ((0 : Nat) : Int)) rfl ?_
  refine lf_istore_n d_S_areSameEverywhere_1 rfl (by decide +kernel) (L2 := [(3, _), (0, _), (1, _), (2, _)]) rfl ?_
  exact s_same_l hx hS hV hn2 hs hw hsw ha hb hr ⟨_, _, _, rfl, rfl, rfl, rfl, rfl⟩ (2 ^ s) 0 (by omega) (fun e he => absurd he (Nat.not_lt_zero e))
end ST2
