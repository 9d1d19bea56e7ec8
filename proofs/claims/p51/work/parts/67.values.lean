section LW3
variable {X : XT} {L9 : Nat} {xs : Nat → Int32} {sh : sM} {I : mI} {J : mJ}

variable {D : mF} {P : Option Value → mF → Prop} {PX : String → mF → Prop} {kc ks : Nat}

/-- the rows of the nets -/
def RW (sh : sM) (I : mI) (N : Nat) (kd : Nat → Int) (ow r2 r3 : Nat → Nat) : Prop :=
  (∃ f : Nat → Option Nat, sh 100 = some (.inl (.array .int, N, 2, f)) ∧ ∀ j, j < N → f j = some (101 + j)) ∧ (∀ j, j < N → sh (101 + j) = some (.inl (.int, 4, 0, fun _ => none))) ∧
  ∀ j, j < N → I (101 + j) 0 = kd j ∧ I (101 + j) 1 = ow j ∧ I (101 + j) 2 = r2 j ∧ I (101 + j) 3 = r3 j
/-- what they may be -/
def RKq (N ni s : Nat) (kd : Nat → Int) (ow r2 r3 : Nat → Nat) : Prop :=
  (∀ j, j < ni → kd j = 105 ∧ ow j = 2) ∧ (∀ j, ni ≤ j → j < s → kd j = 99 ∧ ow j = (j - ni) % 2 ∧ r2 j < 2 ∧ r3 j = (j - ni) / 2) ∧
  (∀ j, s ≤ j → j < N → KDq (kd j) ∧ ow j < 2 ∧ r2 j < j ∧ r3 j < j ∧ (ow (r2 j) = 2 ∨ ow (r2 j) = ow j) ∧ (ow (r3 j) = 2 ∨ ow (r3 j) = ow j)) ∧ (1 ≤ ni ∧ ni ≤ s ∧ s ≤ N ∧ N ≤ 23 ∧ s ≤ 7)
theorem RW_of {s0 : sM} {I0 : mI} {J0 : mJ} {N ni c : Nat} (hN : ni + 2 * c ≤ N ∧ N ≤ 23 ∧ 1 ≤ ni ∧ ni + 2 * c ≤ 7) (h : NBI s0 I0 J0 N ni c sh I J N) : ∃ (kd : Nat → Int) (ow r2 r3 : Nat → Nat), RW sh I N kd ow r2 r3 ∧ RKq N ni (ni + 2 * c) kd ow r2 r3 := by
  obtain ⟨h1, h2, h3, h4, h5⟩ := h
  have g : ∀ j, j < N → 0 ≤ I (101 + j) 1 ∧ 0 ≤ I (101 + j) 2 ∧ 0 ≤ I (101 + j) 3 := fun j hj => by
    rcases h4 j hj with g | g | ⟨g1, g2, a, x, y, g3, g4, g5, g6, -⟩ <;> omega
  refine ⟨fun j => I (101 + j) 0, fun j => (I (101 + j) 1).toNat, fun j => (I (101 + j) 2).toNat, fun j => (I (101 + j) 3).toNat, ⟨h1, h2, fun j hj => ⟨rfl, (Int.toNat_of_nonneg (g j hj).1).symm, (Int.toNat_of_nonneg (g j hj).2.1).symm, (Int.toNat_of_nonneg (g j hj).2.2).symm⟩⟩, fun j hj => ?_, fun j h8 h9 => ?_, fun j h8 h9 => ?_, by omega⟩
  · rcases h4 j (by omega) with q | q | ⟨q1, q2, -⟩
    · exact ⟨q.2.1, by show (I (101 + j) 1).toNat = 2; omega⟩
    · omega
    · omega
  · rcases h4 j (by omega) with q | q | ⟨q1, q2, -⟩
    · omega
    · refine ⟨q.2.2.1, ?_, ?_, ?_⟩
      · show (I (101 + j) 1).toNat = _
        omega
      · show (I (101 + j) 2).toNat < 2
        omega
      · show (I (101 + j) 3).toNat = _
        omega
    · omega
  · rcases h4 j (by omega) with q | q | ⟨q1, q2, a, x, y, g3, g4, g5, g6, g7, g8, g9, g10⟩
    · omega
    · omega
    · have e1 : (I (101 + j) 1).toNat = a := by omega
      have e2 : (I (101 + j) 2).toNat = x := by omega
      have e3 : (I (101 + j) 3).toNat = y := by omega
      show KDq (I (101 + j) 0) ∧ (I (101 + j) 1).toNat < 2 ∧ (I (101 + j) 2).toNat < j ∧ (I (101 + j) 3).toNat < j ∧ ((I (101 + (I (101 + j) 2).toNat) 1).toNat = 2 ∨ (I (101 + (I (101 + j) 2).toNat) 1).toNat = (I (101 + j) 1).toNat) ∧ ((I (101 + (I (101 + j) 3).toNat) 1).toNat = 2 ∨ (I (101 + (I (101 + j) 3).toNat) 1).toNat = (I (101 + j) 1).toNat)
      rw [e1, e2, e3]
      exact ⟨q2, g4, g7, g8, by omega, by omega⟩
/-- the second pin as the class keeps it -/
def pbF (kd : Nat → Int) (r2 r3 : Nat → Nat) (j : Nat) : Nat := if kd j = 98 ∨ kd j = 118 then r2 j else r3 j
theorem gB_pb {kd : Int} {x y z : Bool} (h : kd = 98 ∨ kd = 118) : gB kd x y = gB kd x z := by
  rcases h with rfl | rfl <;> rfl
theorem tldN_pb {kd : Int} {x y z : Nat} (h : kd = 98 ∨ kd = 118) : tldN kd x y = tldN kd x z := by
  rcases h with rfl | rfl <;> rfl
theorem pb_lt {kd : Nat → Int} {r2 r3 : Nat → Nat} {j : Nat} (h2 : r2 j < j) (h3 : r3 j < j) : pbF kd r2 r3 j < j := by
  unfold pbF
  split
  · exact h2
  · exact h3
/-- the values of the lines, as the law has them -/
def vlw (N s : Nat) (kd : Nat → Int) (r2 r3 : Nat → Nat) (c : Nat) (j : Nat) : Bool := bvl s kd r2 (pbF kd r2 r3) (fun i => c.testBit i) N j
theorem vlw_s {c j : Nat} {N s : Nat} {kd : Nat → Int} {r2 r3 : Nat → Nat} (h : j < s) (h2 : s ≤ N) : vlw N s kd r2 r3 c j = c.testBit j := bvl_src h (by omega)
theorem bvl_gt {s : Nat} {kd : Nat → Int} {pa pb : Nat → Nat} {src : Nat → Bool} {m j : Nat} (h : s ≤ j) (hm : j < m) (ha : pa j < j) (hb : pb j < j) : bvl s kd pa pb src m j = gB (kd j) (bvl s kd pa pb src m (pa j)) (bvl s kd pa pb src m (pb j)) := by
  rw [bvl_st (n := j + 1) (by omega) (by omega), bvl_st (m := m) (n := j) ha (by omega), bvl_st (m := m) (n := j) hb (by omega)]
  show (if j = j then _ else _) = _
  rw [if_pos rfl, if_neg (by omega)]
theorem vlw_g {c j : Nat} {N s : Nat} {kd : Nat → Int} {r2 r3 : Nat → Nat} (h : s ≤ j) (h2 : j < N) (ha : r2 j < j) (hb : r3 j < j) : vlw N s kd r2 r3 c j = gB (kd j) (vlw N s kd r2 r3 c (r2 j)) (vlw N s kd r2 r3 c (r3 j)) := by
  unfold vlw
  rw [bvl_gt h h2 ha (pb_lt ha hb)]
  unfold pbF
  split
  · rename_i q
    exact gB_pb q
  · rfl
theorem tb_bn (c k : Nat) : c / 2 ^ k &&& 1 = bn (c.testBit k) := by
  rw [Nat.and_one_is_mod, Nat.testBit_eq_decide_div_mod_eq]
  unfold bn
  have := Nat.mod_lt (c / 2 ^ k) (show 0 < 2 by decide)
  rcases Nat.mod_two_eq_zero_or_one (c / 2 ^ k) with e | e
  · rw [e]; rfl
  · rw [e]; rfl
theorem gB_97 (x y : Bool) : bn x &&& bn y = bn (gB 97 x y) := by cases x <;> cases y <;> decide
theorem gB_111 (x y : Bool) : bn x ||| bn y = bn (gB 111 x y) := by cases x <;> cases y <;> decide
theorem gB_120 (x y : Bool) : bn x ^^^ bn y = bn (gB 120 x y) := by cases x <;> cases y <;> decide
theorem gB_110 (x y : Bool) : 1 - (bn x &&& bn y) = bn (gB 110 x y) := by cases x <;> cases y <;> decide
theorem gB_114 (x y : Bool) : 1 - (bn x ||| bn y) = bn (gB 114 x y) := by cases x <;> cases y <;> decide
theorem gB_118 (x y : Bool) : 1 - bn x = bn (gB 118 x y) := by cases x <;> cases y <;> decide
theorem gB_98 (x y : Bool) : bn x = bn (gB 98 x y) := by cases x <;> cases y <;> decide
theorem bn_and (x y : Bool) : bn x &&& bn y ≤ 1 := by cases x <;> cases y <;> decide
theorem bn_or (x y : Bool) : bn x ||| bn y ≤ 1 := by cases x <;> cases y <;> decide
theorem bn_le (x : Bool) : bn x ≤ 1 := by cases x <;> decide
theorem w_vb_l {N ni s : Nat} {kd : Nat → Int} {ow r2 r3 : Nat → Nat} (hrw : RW sh I N kd ow r2 r3) (hrk : RKq N ni s kd ow r2 r3) {q c m : Nat} (hq : 124 ≤ q) (hc : c < 1000) (k203 : ∀ I1 : mI, (∀ a, ¬ a = q → I1 a = I a) ∧ (∀ j, j < N → I1 q j = ((bn (vlw N s kd r2 r3 c j) : Nat) : Int)) → LXf TT cl6 X mi_W_valuesBy (40 + 0) (1000 + 200 * 0) D P PX kc ks 203 [(3, .ref q)] [] (hp (spt sh q (.inl (.int, N, 0, fun _ => none))) I1 (jzr J q))) : ∀ (d k : Nat) (I1 : mI), k + d = N → (∀ a, ¬ a = q → I1 a = I a) ∧ (∀ j, j < k → I1 q j = ((bn (vlw N s kd r2 r3 c j) : Nat) : Int)) → LXf TT cl6 X mi_W_valuesBy (40 + 0) (1000 + 200 * 0) D P PX kc ks 8 [(4, .int (Int32.ofInt ((k : Nat) : Int))), (3, .ref q), (0, .ref 100), (1, .int (Int32.ofInt ((m : Nat) : Int))), (2, .int (Int32.ofInt ((c : Nat) : Int)))] [] (hp (spt sh q (.inl (.int, N, 0, fun _ => none))) I1 (jzr J q)) := by
  obtain ⟨⟨f, hs0, hf⟩, hr, hR⟩ := hrw
  obtain ⟨ki, kc9, kg, hni1, hnis, hsN, hN23, hs7⟩ := hrk
  intro d
  induction d with
  | zero =>
    intro k I1 hd hb
    obtain rfl : N = k := by omega
    refine lf_iload d_W_valuesBy_8 rfl ?_
    refine lf_aload_n d_W_valuesBy_10 rfl rfl rfl ?_
    refine gi_len d_W_valuesBy_11 (show spt sh q (.inl (.int, N, 0, fun _ => none)) 100 = _ from (spt_o (by omega)).trans hs0) ?_
    refine gi_icmp_ge d_W_valuesBy_12 (tgt := 203) (by decide) (by omega) (fun hb12 => ?_) (fun hb12 => False.elim (by omega))
    refine lf_sub [1] rfl ?_
    exact k203 I1 hb
  | succ d ih =>
    intro k I1 hd hb
    have e100 : I1 (101 + k) = I (101 + k) := hb.1 _ (by omega)
    have g0 : I1 (101 + k) 0 = kd k := (congrFun e100 0).trans (hR k (by omega)).1
    have g2 : I1 (101 + k) 2 = r2 k := (congrFun e100 2).trans (hR k (by omega)).2.2.1
    have g3 : I1 (101 + k) 3 = r3 k := (congrFun e100 3).trans (hR k (by omega)).2.2.2
    have nxt9 : ∀ z : Nat, z = bn (vlw N s kd r2 r3 c k) → LXf TT cl6 X mi_W_valuesBy (40 + 0) (1000 + 200 * 0) D P PX kc ks 8 [(4, .int (Int32.ofInt ((k + 1 : Nat) : Int))), (3, .ref q), (0, .ref 100), (1, .int (Int32.ofInt ((m : Nat) : Int))), (2, .int (Int32.ofInt ((c : Nat) : Int)))] [] (hp (spt sh q (.inl (.int, N, 0, fun _ => none))) (ipt I1 q k ((z : Nat) : Int)) (jzr J q)) := by
      intro z hz
      refine ih (k + 1) _ (by omega) ⟨fun a ha => (ipt_o ha).trans (hb.1 a ha), fun j hj => ?_⟩
      rw [ipt_s]
      by_cases e : j = k
      · rw [if_pos e, e, hz]
      · rw [if_neg e]
        exact hb.2 j (by omega)
    rcases Nat.lt_or_ge k s with q9 | q9
    · rcases Nat.lt_or_ge k ni with q8 | q8
      · have hq9 := (ki k q8).1
        refine lf_iload d_W_valuesBy_8 rfl ?_
        refine lf_aload_n d_W_valuesBy_10 rfl rfl rfl ?_
        refine gi_len d_W_valuesBy_11 (show spt sh q (.inl (.int, N, 0, fun _ => none)) 100 = _ from (spt_o (by omega)).trans hs0) ?_
        refine gi_icmp_ge d_W_valuesBy_12 (tgt := 203) (by decide) (by omega) (fun hb12 => False.elim (by omega)) (fun hb12 => ?_)
        refine lf_aload_n d_W_valuesBy_15 rfl rfl rfl ?_
        refine lf_iload d_W_valuesBy_16 rfl ?_
        refine gi_aald (kd := 0) d_W_valuesBy_18 rfl ((spt_o (by omega)).trans hs0) (by omega) (hf k (by omega)) ?_
        refine lf_astore d_W_valuesBy_19 (by decide +kernel) rfl (L2 := [(5, _), (4, _), (3, _), (0, _), (1, _), (2, _)]) rfl ?_
        refine lf_aload d_W_valuesBy_21 rfl rfl ?_
        refine lf_iconst d_W_valuesBy_23 (v := Int32.ofInt ((0 : Nat) : Int)) rfl ?_
        refine gi_ialoadN d_W_valuesBy_24 (show spt sh q (.inl (.int, N, 0, fun _ => none)) (101 + k) = _ from (spt_o (by omega)).trans (hr k (by omega))) (by omega) ?_
        refine gi_top (g0.trans hq9) ?_
        refine lf_bipush d_W_valuesBy_25 (v := Int32.ofInt ((105 : Nat) : Int)) (by decide +kernel) ?_
        refine gi_icmp_eq d_W_valuesBy_27 (tgt := 39) (by decide) (by omega) (fun hb27 => ?_) (fun hb27 => False.elim (by omega))
        refine lf_iload_n d_W_valuesBy_39 rfl rfl ?_
        refine lf_iload d_W_valuesBy_40 rfl ?_
        refine gi_ishrN (a := c) (s := k) d_W_valuesBy_42 (by omega) (by omega) ?_
        refine lf_iconst d_W_valuesBy_43 (v := Int32.ofInt ((1 : Nat) : Int)) rfl ?_
        refine gi_iandN (a := (c / 2 ^ k)) (b := 1) d_W_valuesBy_44 ?_
        refine lf_goto d_W_valuesBy_45 (tgt := 54) (by decide) ?_
        refine lf_istore d_W_valuesBy_54 (by decide +kernel) (L2 := [(6, _), (5, _), (4, _), (3, _), (0, _), (1, _), (2, _)]) rfl ?_
        refine lf_aload d_W_valuesBy_56 rfl rfl ?_
        refine lf_iconst d_W_valuesBy_58 (v := Int32.ofInt ((0 : Nat) : Int)) rfl ?_
        refine gi_ialoadN d_W_valuesBy_59 (show spt sh q (.inl (.int, N, 0, fun _ => none)) (101 + k) = _ from (spt_o (by omega)).trans (hr k (by omega))) (by omega) ?_
        refine gi_top (g0.trans hq9) ?_
        refine lf_bipush d_W_valuesBy_60 (v := Int32.ofInt ((105 : Nat) : Int)) (by decide +kernel) ?_
        refine gi_icmp_eq d_W_valuesBy_62 (tgt := 74) (by decide) (by omega) (fun hb62 => ?_) (fun hb62 => False.elim (by omega))
        refine lf_iconst d_W_valuesBy_74 (v := Int32.ofInt ((0 : Nat) : Int)) rfl ?_
        refine lf_goto d_W_valuesBy_75 (tgt := 84) (by decide) ?_
        refine lf_istore d_W_valuesBy_84 (by decide +kernel) (L2 := [(7, _), (6, _), (5, _), (4, _), (3, _), (0, _), (1, _), (2, _)]) rfl ?_
        refine lf_aload_n d_W_valuesBy_86 rfl rfl rfl ?_
        refine lf_iload d_W_valuesBy_87 rfl ?_
        refine lf_aload d_W_valuesBy_89 rfl rfl ?_
        refine lf_iconst d_W_valuesBy_91 (v := Int32.ofInt ((0 : Nat) : Int)) rfl ?_
        refine gi_ialoadN d_W_valuesBy_92 (show spt sh q (.inl (.int, N, 0, fun _ => none)) (101 + k) = _ from (spt_o (by omega)).trans (hr k (by omega))) (by omega) ?_
        refine gi_top (g0.trans hq9) ?_
        refine lf_bipush d_W_valuesBy_93 (v := Int32.ofInt ((97 : Nat) : Int)) (by decide +kernel) ?_
        refine gi_icmp_ne d_W_valuesBy_95 (tgt := 106) (by decide) (by omega) (fun hb95 => ?_) (fun hb95 => False.elim (by omega))
        refine lf_aload d_W_valuesBy_106 rfl rfl ?_
        refine lf_iconst d_W_valuesBy_108 (v := Int32.ofInt ((0 : Nat) : Int)) rfl ?_
        refine gi_ialoadN d_W_valuesBy_109 (show spt sh q (.inl (.int, N, 0, fun _ => none)) (101 + k) = _ from (spt_o (by omega)).trans (hr k (by omega))) (by omega) ?_
        refine gi_top (g0.trans hq9) ?_
        refine lf_bipush d_W_valuesBy_110 (v := Int32.ofInt ((111 : Nat) : Int)) (by decide +kernel) ?_
        refine gi_icmp_ne d_W_valuesBy_112 (tgt := 123) (by decide) (by omega) (fun hb112 => ?_) (fun hb112 => False.elim (by omega))
        refine lf_aload d_W_valuesBy_123 rfl rfl ?_
        refine lf_iconst d_W_valuesBy_125 (v := Int32.ofInt ((0 : Nat) : Int)) rfl ?_
        refine gi_ialoadN d_W_valuesBy_126 (show spt sh q (.inl (.int, N, 0, fun _ => none)) (101 + k) = _ from (spt_o (by omega)).trans (hr k (by omega))) (by omega) ?_
        refine gi_top (g0.trans hq9) ?_
        refine lf_bipush d_W_valuesBy_127 (v := Int32.ofInt ((120 : Nat) : Int)) (by decide +kernel) ?_
        refine gi_icmp_ne d_W_valuesBy_129 (tgt := 140) (by decide) (by omega) (fun hb129 => ?_) (fun hb129 => False.elim (by omega))
        refine lf_aload d_W_valuesBy_140 rfl rfl ?_
        refine lf_iconst d_W_valuesBy_142 (v := Int32.ofInt ((0 : Nat) : Int)) rfl ?_
        refine gi_ialoadN d_W_valuesBy_143 (show spt sh q (.inl (.int, N, 0, fun _ => none)) (101 + k) = _ from (spt_o (by omega)).trans (hr k (by omega))) (by omega) ?_
        refine gi_top (g0.trans hq9) ?_
        refine lf_bipush d_W_valuesBy_144 (v := Int32.ofInt ((110 : Nat) : Int)) (by decide +kernel) ?_
        refine gi_icmp_ne d_W_valuesBy_146 (tgt := 159) (by decide) (by omega) (fun hb146 => ?_) (fun hb146 => False.elim (by omega))
        refine lf_aload d_W_valuesBy_159 rfl rfl ?_
        refine lf_iconst d_W_valuesBy_161 (v := Int32.ofInt ((0 : Nat) : Int)) rfl ?_
        refine gi_ialoadN d_W_valuesBy_162 (show spt sh q (.inl (.int, N, 0, fun _ => none)) (101 + k) = _ from (spt_o (by omega)).trans (hr k (by omega))) (by omega) ?_
        refine gi_top (g0.trans hq9) ?_
        refine lf_bipush d_W_valuesBy_163 (v := Int32.ofInt ((114 : Nat) : Int)) (by decide +kernel) ?_
        refine gi_icmp_ne d_W_valuesBy_165 (tgt := 178) (by decide) (by omega) (fun hb165 => ?_) (fun hb165 => False.elim (by omega))
        refine lf_aload d_W_valuesBy_178 rfl rfl ?_
        refine lf_iconst d_W_valuesBy_180 (v := Int32.ofInt ((0 : Nat) : Int)) rfl ?_
        refine gi_ialoadN d_W_valuesBy_181 (show spt sh q (.inl (.int, N, 0, fun _ => none)) (101 + k) = _ from (spt_o (by omega)).trans (hr k (by omega))) (by omega) ?_
        refine gi_top (g0.trans hq9) ?_
        refine lf_bipush d_W_valuesBy_182 (v := Int32.ofInt ((118 : Nat) : Int)) (by decide +kernel) ?_
        refine gi_icmp_ne d_W_valuesBy_184 (tgt := 194) (by decide) (by omega) (fun hb184 => ?_) (fun hb184 => False.elim (by omega))
        refine lf_iload d_W_valuesBy_194 rfl ?_
        refine gi_iastoreN d_W_valuesBy_196 (show spt sh q (.inl (.int, N, 0, fun _ => none)) q = _ from spt_s) (by omega) ?_
        refine gi_iincN d_W_valuesBy_197 rfl (by decide +kernel) (L2 := [(4, _), (7, _), (6, _), (5, _), (3, _), (0, _), (1, _), (2, _)]) rfl ?_
        refine lf_goto d_W_valuesBy_200 (tgt := 8) (by decide) ?_
        refine lf_sub [0, 4, 5, 6, 7] rfl ?_
        exact nxt9 _ (by rw [vlw_s (N := N) (s := s) (kd := kd) (r2 := r2) (r3 := r3) (c := c) (j := k) (by omega) hsN]; exact tb_bn c k)
      · have hq9 := (kc9 k q8 q9).1
        refine lf_iload d_W_valuesBy_8 rfl ?_
        refine lf_aload_n d_W_valuesBy_10 rfl rfl rfl ?_
        refine gi_len d_W_valuesBy_11 (show spt sh q (.inl (.int, N, 0, fun _ => none)) 100 = _ from (spt_o (by omega)).trans hs0) ?_
        refine gi_icmp_ge d_W_valuesBy_12 (tgt := 203) (by decide) (by omega) (fun hb12 => False.elim (by omega)) (fun hb12 => ?_)
        refine lf_aload_n d_W_valuesBy_15 rfl rfl rfl ?_
        refine lf_iload d_W_valuesBy_16 rfl ?_
        refine gi_aald (kd := 0) d_W_valuesBy_18 rfl ((spt_o (by omega)).trans hs0) (by omega) (hf k (by omega)) ?_
        refine lf_astore d_W_valuesBy_19 (by decide +kernel) rfl (L2 := [(5, _), (4, _), (3, _), (0, _), (1, _), (2, _)]) rfl ?_
        refine lf_aload d_W_valuesBy_21 rfl rfl ?_
        refine lf_iconst d_W_valuesBy_23 (v := Int32.ofInt ((0 : Nat) : Int)) rfl ?_
        refine gi_ialoadN d_W_valuesBy_24 (show spt sh q (.inl (.int, N, 0, fun _ => none)) (101 + k) = _ from (spt_o (by omega)).trans (hr k (by omega))) (by omega) ?_
        refine gi_top (g0.trans hq9) ?_
        refine lf_bipush d_W_valuesBy_25 (v := Int32.ofInt ((105 : Nat) : Int)) (by decide +kernel) ?_
        refine gi_icmp_eq d_W_valuesBy_27 (tgt := 39) (by decide) (by omega) (fun hb27 => False.elim (by omega)) (fun hb27 => ?_)
        refine lf_aload d_W_valuesBy_30 rfl rfl ?_
        refine lf_iconst d_W_valuesBy_32 (v := Int32.ofInt ((0 : Nat) : Int)) rfl ?_
        refine gi_ialoadN d_W_valuesBy_33 (show spt sh q (.inl (.int, N, 0, fun _ => none)) (101 + k) = _ from (spt_o (by omega)).trans (hr k (by omega))) (by omega) ?_
        refine gi_top (g0.trans hq9) ?_
        refine lf_bipush d_W_valuesBy_34 (v := Int32.ofInt ((99 : Nat) : Int)) (by decide +kernel) ?_
        refine gi_icmp_ne d_W_valuesBy_36 (tgt := 48) (by decide) (by omega) (fun hb36 => False.elim (by omega)) (fun hb36 => ?_)
        refine lf_iload_n d_W_valuesBy_39 rfl rfl ?_
        refine lf_iload d_W_valuesBy_40 rfl ?_
        refine gi_ishrN (a := c) (s := k) d_W_valuesBy_42 (by omega) (by omega) ?_
        refine lf_iconst d_W_valuesBy_43 (v := Int32.ofInt ((1 : Nat) : Int)) rfl ?_
        refine gi_iandN (a := (c / 2 ^ k)) (b := 1) d_W_valuesBy_44 ?_
        refine lf_goto d_W_valuesBy_45 (tgt := 54) (by decide) ?_
        refine lf_istore d_W_valuesBy_54 (by decide +kernel) (L2 := [(6, _), (5, _), (4, _), (3, _), (0, _), (1, _), (2, _)]) rfl ?_
        refine lf_aload d_W_valuesBy_56 rfl rfl ?_
        refine lf_iconst d_W_valuesBy_58 (v := Int32.ofInt ((0 : Nat) : Int)) rfl ?_
        refine gi_ialoadN d_W_valuesBy_59 (show spt sh q (.inl (.int, N, 0, fun _ => none)) (101 + k) = _ from (spt_o (by omega)).trans (hr k (by omega))) (by omega) ?_
        refine gi_top (g0.trans hq9) ?_
        refine lf_bipush d_W_valuesBy_60 (v := Int32.ofInt ((105 : Nat) : Int)) (by decide +kernel) ?_
        refine gi_icmp_eq d_W_valuesBy_62 (tgt := 74) (by decide) (by omega) (fun hb62 => False.elim (by omega)) (fun hb62 => ?_)
        refine lf_aload d_W_valuesBy_65 rfl rfl ?_
        refine lf_iconst d_W_valuesBy_67 (v := Int32.ofInt ((0 : Nat) : Int)) rfl ?_
        refine gi_ialoadN d_W_valuesBy_68 (show spt sh q (.inl (.int, N, 0, fun _ => none)) (101 + k) = _ from (spt_o (by omega)).trans (hr k (by omega))) (by omega) ?_
        refine gi_top (g0.trans hq9) ?_
        refine lf_bipush d_W_valuesBy_69 (v := Int32.ofInt ((99 : Nat) : Int)) (by decide +kernel) ?_
        refine gi_icmp_ne d_W_valuesBy_71 (tgt := 78) (by decide) (by omega) (fun hb71 => False.elim (by omega)) (fun hb71 => ?_)
        refine lf_iconst d_W_valuesBy_74 (v := Int32.ofInt ((0 : Nat) : Int)) rfl ?_
        refine lf_goto d_W_valuesBy_75 (tgt := 84) (by decide) ?_
        refine lf_istore d_W_valuesBy_84 (by decide +kernel) (L2 := [(7, _), (6, _), (5, _), (4, _), (3, _), (0, _), (1, _), (2, _)]) rfl ?_
        refine lf_aload_n d_W_valuesBy_86 rfl rfl rfl ?_
        refine lf_iload d_W_valuesBy_87 rfl ?_
        refine lf_aload d_W_valuesBy_89 rfl rfl ?_
        refine lf_iconst d_W_valuesBy_91 (v := Int32.ofInt ((0 : Nat) : Int)) rfl ?_
        refine gi_ialoadN d_W_valuesBy_92 (show spt sh q (.inl (.int, N, 0, fun _ => none)) (101 + k) = _ from (spt_o (by omega)).trans (hr k (by omega))) (by omega) ?_
        refine gi_top (g0.trans hq9) ?_
        refine lf_bipush d_W_valuesBy_93 (v := Int32.ofInt ((97 : Nat) : Int)) (by decide +kernel) ?_
        refine gi_icmp_ne d_W_valuesBy_95 (tgt := 106) (by decide) (by omega) (fun hb95 => ?_) (fun hb95 => False.elim (by omega))
        refine lf_aload d_W_valuesBy_106 rfl rfl ?_
        refine lf_iconst d_W_valuesBy_108 (v := Int32.ofInt ((0 : Nat) : Int)) rfl ?_
        refine gi_ialoadN d_W_valuesBy_109 (show spt sh q (.inl (.int, N, 0, fun _ => none)) (101 + k) = _ from (spt_o (by omega)).trans (hr k (by omega))) (by omega) ?_
        refine gi_top (g0.trans hq9) ?_
        refine lf_bipush d_W_valuesBy_110 (v := Int32.ofInt ((111 : Nat) : Int)) (by decide +kernel) ?_
        refine gi_icmp_ne d_W_valuesBy_112 (tgt := 123) (by decide) (by omega) (fun hb112 => ?_) (fun hb112 => False.elim (by omega))
        refine lf_aload d_W_valuesBy_123 rfl rfl ?_
        refine lf_iconst d_W_valuesBy_125 (v := Int32.ofInt ((0 : Nat) : Int)) rfl ?_
        refine gi_ialoadN d_W_valuesBy_126 (show spt sh q (.inl (.int, N, 0, fun _ => none)) (101 + k) = _ from (spt_o (by omega)).trans (hr k (by omega))) (by omega) ?_
        refine gi_top (g0.trans hq9) ?_
        refine lf_bipush d_W_valuesBy_127 (v := Int32.ofInt ((120 : Nat) : Int)) (by decide +kernel) ?_
        refine gi_icmp_ne d_W_valuesBy_129 (tgt := 140) (by decide) (by omega) (fun hb129 => ?_) (fun hb129 => False.elim (by omega))
        refine lf_aload d_W_valuesBy_140 rfl rfl ?_
        refine lf_iconst d_W_valuesBy_142 (v := Int32.ofInt ((0 : Nat) : Int)) rfl ?_
        refine gi_ialoadN d_W_valuesBy_143 (show spt sh q (.inl (.int, N, 0, fun _ => none)) (101 + k) = _ from (spt_o (by omega)).trans (hr k (by omega))) (by omega) ?_
        refine gi_top (g0.trans hq9) ?_
        refine lf_bipush d_W_valuesBy_144 (v := Int32.ofInt ((110 : Nat) : Int)) (by decide +kernel) ?_
        refine gi_icmp_ne d_W_valuesBy_146 (tgt := 159) (by decide) (by omega) (fun hb146 => ?_) (fun hb146 => False.elim (by omega))
        refine lf_aload d_W_valuesBy_159 rfl rfl ?_
        refine lf_iconst d_W_valuesBy_161 (v := Int32.ofInt ((0 : Nat) : Int)) rfl ?_
        refine gi_ialoadN d_W_valuesBy_162 (show spt sh q (.inl (.int, N, 0, fun _ => none)) (101 + k) = _ from (spt_o (by omega)).trans (hr k (by omega))) (by omega) ?_
        refine gi_top (g0.trans hq9) ?_
        refine lf_bipush d_W_valuesBy_163 (v := Int32.ofInt ((114 : Nat) : Int)) (by decide +kernel) ?_
        refine gi_icmp_ne d_W_valuesBy_165 (tgt := 178) (by decide) (by omega) (fun hb165 => ?_) (fun hb165 => False.elim (by omega))
        refine lf_aload d_W_valuesBy_178 rfl rfl ?_
        refine lf_iconst d_W_valuesBy_180 (v := Int32.ofInt ((0 : Nat) : Int)) rfl ?_
        refine gi_ialoadN d_W_valuesBy_181 (show spt sh q (.inl (.int, N, 0, fun _ => none)) (101 + k) = _ from (spt_o (by omega)).trans (hr k (by omega))) (by omega) ?_
        refine gi_top (g0.trans hq9) ?_
        refine lf_bipush d_W_valuesBy_182 (v := Int32.ofInt ((118 : Nat) : Int)) (by decide +kernel) ?_
        refine gi_icmp_ne d_W_valuesBy_184 (tgt := 194) (by decide) (by omega) (fun hb184 => ?_) (fun hb184 => False.elim (by omega))
        refine lf_iload d_W_valuesBy_194 rfl ?_
        refine gi_iastoreN d_W_valuesBy_196 (show spt sh q (.inl (.int, N, 0, fun _ => none)) q = _ from spt_s) (by omega) ?_
        refine gi_iincN d_W_valuesBy_197 rfl (by decide +kernel) (L2 := [(4, _), (7, _), (6, _), (5, _), (3, _), (0, _), (1, _), (2, _)]) rfl ?_
        refine lf_goto d_W_valuesBy_200 (tgt := 8) (by decide) ?_
        refine lf_sub [0, 4, 5, 6, 7] rfl ?_
        exact nxt9 _ (by rw [vlw_s (N := N) (s := s) (kd := kd) (r2 := r2) (r3 := r3) (c := c) (j := k) (by omega) hsN]; exact tb_bn c k)
    · have g9 : r2 k < k ∧ r3 k < k := ⟨(kg k q9 (by omega)).2.2.1, (kg k q9 (by omega)).2.2.2.1⟩
      rcases (kg k q9 (by omega)).1 with hq9 | hq9 | hq9 | hq9 | hq9 | hq9 | hq9
      · have l1 := bn_and (vlw N s kd r2 r3 c (r2 k)) (vlw N s kd r2 r3 c (r3 k))
        have l2 := bn_or (vlw N s kd r2 r3 c (r2 k)) (vlw N s kd r2 r3 c (r3 k))
        have l3 := bn_le (vlw N s kd r2 r3 c (r2 k))
        refine lf_iload d_W_valuesBy_8 rfl ?_
        refine lf_aload_n d_W_valuesBy_10 rfl rfl rfl ?_
        refine gi_len d_W_valuesBy_11 (show spt sh q (.inl (.int, N, 0, fun _ => none)) 100 = _ from (spt_o (by omega)).trans hs0) ?_
        refine gi_icmp_ge d_W_valuesBy_12 (tgt := 203) (by decide) (by omega) (fun hb12 => False.elim (by omega)) (fun hb12 => ?_)
        refine lf_aload_n d_W_valuesBy_15 rfl rfl rfl ?_
        refine lf_iload d_W_valuesBy_16 rfl ?_
        refine gi_aald (kd := 0) d_W_valuesBy_18 rfl ((spt_o (by omega)).trans hs0) (by omega) (hf k (by omega)) ?_
        refine lf_astore d_W_valuesBy_19 (by decide +kernel) rfl (L2 := [(5, _), (4, _), (3, _), (0, _), (1, _), (2, _)]) rfl ?_
        refine lf_aload d_W_valuesBy_21 rfl rfl ?_
        refine lf_iconst d_W_valuesBy_23 (v := Int32.ofInt ((0 : Nat) : Int)) rfl ?_
        refine gi_ialoadN d_W_valuesBy_24 (show spt sh q (.inl (.int, N, 0, fun _ => none)) (101 + k) = _ from (spt_o (by omega)).trans (hr k (by omega))) (by omega) ?_
        refine gi_top (g0.trans hq9) ?_
        refine lf_bipush d_W_valuesBy_25 (v := Int32.ofInt ((105 : Nat) : Int)) (by decide +kernel) ?_
        refine gi_icmp_eq d_W_valuesBy_27 (tgt := 39) (by decide) (by omega) (fun hb27 => False.elim (by omega)) (fun hb27 => ?_)
        refine lf_aload d_W_valuesBy_30 rfl rfl ?_
        refine lf_iconst d_W_valuesBy_32 (v := Int32.ofInt ((0 : Nat) : Int)) rfl ?_
        refine gi_ialoadN d_W_valuesBy_33 (show spt sh q (.inl (.int, N, 0, fun _ => none)) (101 + k) = _ from (spt_o (by omega)).trans (hr k (by omega))) (by omega) ?_
        refine gi_top (g0.trans hq9) ?_
        refine lf_bipush d_W_valuesBy_34 (v := Int32.ofInt ((99 : Nat) : Int)) (by decide +kernel) ?_
        refine gi_icmp_ne d_W_valuesBy_36 (tgt := 48) (by decide) (by omega) (fun hb36 => ?_) (fun hb36 => False.elim (by omega))
        refine lf_aload_n d_W_valuesBy_48 rfl rfl rfl ?_
        refine lf_aload d_W_valuesBy_49 rfl rfl ?_
        refine lf_iconst d_W_valuesBy_51 (v := Int32.ofInt ((2 : Nat) : Int)) rfl ?_
        refine gi_ialoadN d_W_valuesBy_52 (show spt sh q (.inl (.int, N, 0, fun _ => none)) (101 + k) = _ from (spt_o (by omega)).trans (hr k (by omega))) (by omega) ?_
        refine gi_top g2 ?_
        refine gi_ialoadN d_W_valuesBy_53 (show spt sh q (.inl (.int, N, 0, fun _ => none)) q = _ from spt_s) (by omega) ?_
        refine gi_top (hb.2 (r2 k) (by omega)) ?_
        refine lf_istore d_W_valuesBy_54 (by decide +kernel) (L2 := [(6, _), (5, _), (4, _), (3, _), (0, _), (1, _), (2, _)]) rfl ?_
        refine lf_aload d_W_valuesBy_56 rfl rfl ?_
        refine lf_iconst d_W_valuesBy_58 (v := Int32.ofInt ((0 : Nat) : Int)) rfl ?_
        refine gi_ialoadN d_W_valuesBy_59 (show spt sh q (.inl (.int, N, 0, fun _ => none)) (101 + k) = _ from (spt_o (by omega)).trans (hr k (by omega))) (by omega) ?_
        refine gi_top (g0.trans hq9) ?_
        refine lf_bipush d_W_valuesBy_60 (v := Int32.ofInt ((105 : Nat) : Int)) (by decide +kernel) ?_
        refine gi_icmp_eq d_W_valuesBy_62 (tgt := 74) (by decide) (by omega) (fun hb62 => False.elim (by omega)) (fun hb62 => ?_)
        refine lf_aload d_W_valuesBy_65 rfl rfl ?_
        refine lf_iconst d_W_valuesBy_67 (v := Int32.ofInt ((0 : Nat) : Int)) rfl ?_
        refine gi_ialoadN d_W_valuesBy_68 (show spt sh q (.inl (.int, N, 0, fun _ => none)) (101 + k) = _ from (spt_o (by omega)).trans (hr k (by omega))) (by omega) ?_
        refine gi_top (g0.trans hq9) ?_
        refine lf_bipush d_W_valuesBy_69 (v := Int32.ofInt ((99 : Nat) : Int)) (by decide +kernel) ?_
        refine gi_icmp_ne d_W_valuesBy_71 (tgt := 78) (by decide) (by omega) (fun hb71 => ?_) (fun hb71 => False.elim (by omega))
        refine lf_aload_n d_W_valuesBy_78 rfl rfl rfl ?_
        refine lf_aload d_W_valuesBy_79 rfl rfl ?_
        refine lf_iconst d_W_valuesBy_81 (v := Int32.ofInt ((3 : Nat) : Int)) rfl ?_
        refine gi_ialoadN d_W_valuesBy_82 (show spt sh q (.inl (.int, N, 0, fun _ => none)) (101 + k) = _ from (spt_o (by omega)).trans (hr k (by omega))) (by omega) ?_
        refine gi_top g3 ?_
        refine gi_ialoadN d_W_valuesBy_83 (show spt sh q (.inl (.int, N, 0, fun _ => none)) q = _ from spt_s) (by omega) ?_
        refine gi_top (hb.2 (r3 k) (by omega)) ?_
        refine lf_istore d_W_valuesBy_84 (by decide +kernel) (L2 := [(7, _), (6, _), (5, _), (4, _), (3, _), (0, _), (1, _), (2, _)]) rfl ?_
        refine lf_aload_n d_W_valuesBy_86 rfl rfl rfl ?_
        refine lf_iload d_W_valuesBy_87 rfl ?_
        refine lf_aload d_W_valuesBy_89 rfl rfl ?_
        refine lf_iconst d_W_valuesBy_91 (v := Int32.ofInt ((0 : Nat) : Int)) rfl ?_
        refine gi_ialoadN d_W_valuesBy_92 (show spt sh q (.inl (.int, N, 0, fun _ => none)) (101 + k) = _ from (spt_o (by omega)).trans (hr k (by omega))) (by omega) ?_
        refine gi_top (g0.trans hq9) ?_
        refine lf_bipush d_W_valuesBy_93 (v := Int32.ofInt ((97 : Nat) : Int)) (by decide +kernel) ?_
        refine gi_icmp_ne d_W_valuesBy_95 (tgt := 106) (by decide) (by omega) (fun hb95 => False.elim (by omega)) (fun hb95 => ?_)
        refine lf_iload d_W_valuesBy_98 rfl ?_
        refine lf_iload d_W_valuesBy_100 rfl ?_
        refine gi_iandN (a := bn (vlw N s kd r2 r3 c (r2 k))) (b := bn (vlw N s kd r2 r3 c (r3 k))) d_W_valuesBy_102 ?_
        refine lf_goto d_W_valuesBy_103 (tgt := 196) (by decide) ?_
        refine gi_iastoreN d_W_valuesBy_196 (show spt sh q (.inl (.int, N, 0, fun _ => none)) q = _ from spt_s) (by omega) ?_
        refine gi_iincN d_W_valuesBy_197 rfl (by decide +kernel) (L2 := [(4, _), (7, _), (6, _), (5, _), (3, _), (0, _), (1, _), (2, _)]) rfl ?_
        refine lf_goto d_W_valuesBy_200 (tgt := 8) (by decide) ?_
        refine lf_sub [0, 4, 5, 6, 7] rfl ?_
        exact nxt9 _ (by rw [vlw_g (N := N) (s := s) (kd := kd) (r2 := r2) (r3 := r3) (c := c) (j := k) (by omega) (by omega) g9.1 g9.2, hq9]; exact gB_97 _ _)
      · have l1 := bn_and (vlw N s kd r2 r3 c (r2 k)) (vlw N s kd r2 r3 c (r3 k))
        have l2 := bn_or (vlw N s kd r2 r3 c (r2 k)) (vlw N s kd r2 r3 c (r3 k))
        have l3 := bn_le (vlw N s kd r2 r3 c (r2 k))
        refine lf_iload d_W_valuesBy_8 rfl ?_
        refine lf_aload_n d_W_valuesBy_10 rfl rfl rfl ?_
        refine gi_len d_W_valuesBy_11 (show spt sh q (.inl (.int, N, 0, fun _ => none)) 100 = _ from (spt_o (by omega)).trans hs0) ?_
        refine gi_icmp_ge d_W_valuesBy_12 (tgt := 203) (by decide) (by omega) (fun hb12 => False.elim (by omega)) (fun hb12 => ?_)
        refine lf_aload_n d_W_valuesBy_15 rfl rfl rfl ?_
        refine lf_iload d_W_valuesBy_16 rfl ?_
        refine gi_aald (kd := 0) d_W_valuesBy_18 rfl ((spt_o (by omega)).trans hs0) (by omega) (hf k (by omega)) ?_
        refine lf_astore d_W_valuesBy_19 (by decide +kernel) rfl (L2 := [(5, _), (4, _), (3, _), (0, _), (1, _), (2, _)]) rfl ?_
        refine lf_aload d_W_valuesBy_21 rfl rfl ?_
        refine lf_iconst d_W_valuesBy_23 (v := Int32.ofInt ((0 : Nat) : Int)) rfl ?_
        refine gi_ialoadN d_W_valuesBy_24 (show spt sh q (.inl (.int, N, 0, fun _ => none)) (101 + k) = _ from (spt_o (by omega)).trans (hr k (by omega))) (by omega) ?_
        refine gi_top (g0.trans hq9) ?_
        refine lf_bipush d_W_valuesBy_25 (v := Int32.ofInt ((105 : Nat) : Int)) (by decide +kernel) ?_
        refine gi_icmp_eq d_W_valuesBy_27 (tgt := 39) (by decide) (by omega) (fun hb27 => False.elim (by omega)) (fun hb27 => ?_)
        refine lf_aload d_W_valuesBy_30 rfl rfl ?_
        refine lf_iconst d_W_valuesBy_32 (v := Int32.ofInt ((0 : Nat) : Int)) rfl ?_
        refine gi_ialoadN d_W_valuesBy_33 (show spt sh q (.inl (.int, N, 0, fun _ => none)) (101 + k) = _ from (spt_o (by omega)).trans (hr k (by omega))) (by omega) ?_
        refine gi_top (g0.trans hq9) ?_
        refine lf_bipush d_W_valuesBy_34 (v := Int32.ofInt ((99 : Nat) : Int)) (by decide +kernel) ?_
        refine gi_icmp_ne d_W_valuesBy_36 (tgt := 48) (by decide) (by omega) (fun hb36 => ?_) (fun hb36 => False.elim (by omega))
        refine lf_aload_n d_W_valuesBy_48 rfl rfl rfl ?_
        refine lf_aload d_W_valuesBy_49 rfl rfl ?_
        refine lf_iconst d_W_valuesBy_51 (v := Int32.ofInt ((2 : Nat) : Int)) rfl ?_
        refine gi_ialoadN d_W_valuesBy_52 (show spt sh q (.inl (.int, N, 0, fun _ => none)) (101 + k) = _ from (spt_o (by omega)).trans (hr k (by omega))) (by omega) ?_
        refine gi_top g2 ?_
        refine gi_ialoadN d_W_valuesBy_53 (show spt sh q (.inl (.int, N, 0, fun _ => none)) q = _ from spt_s) (by omega) ?_
        refine gi_top (hb.2 (r2 k) (by omega)) ?_
        refine lf_istore d_W_valuesBy_54 (by decide +kernel) (L2 := [(6, _), (5, _), (4, _), (3, _), (0, _), (1, _), (2, _)]) rfl ?_
        refine lf_aload d_W_valuesBy_56 rfl rfl ?_
        refine lf_iconst d_W_valuesBy_58 (v := Int32.ofInt ((0 : Nat) : Int)) rfl ?_
        refine gi_ialoadN d_W_valuesBy_59 (show spt sh q (.inl (.int, N, 0, fun _ => none)) (101 + k) = _ from (spt_o (by omega)).trans (hr k (by omega))) (by omega) ?_
        refine gi_top (g0.trans hq9) ?_
        refine lf_bipush d_W_valuesBy_60 (v := Int32.ofInt ((105 : Nat) : Int)) (by decide +kernel) ?_
        refine gi_icmp_eq d_W_valuesBy_62 (tgt := 74) (by decide) (by omega) (fun hb62 => False.elim (by omega)) (fun hb62 => ?_)
        refine lf_aload d_W_valuesBy_65 rfl rfl ?_
        refine lf_iconst d_W_valuesBy_67 (v := Int32.ofInt ((0 : Nat) : Int)) rfl ?_
        refine gi_ialoadN d_W_valuesBy_68 (show spt sh q (.inl (.int, N, 0, fun _ => none)) (101 + k) = _ from (spt_o (by omega)).trans (hr k (by omega))) (by omega) ?_
        refine gi_top (g0.trans hq9) ?_
        refine lf_bipush d_W_valuesBy_69 (v := Int32.ofInt ((99 : Nat) : Int)) (by decide +kernel) ?_
        refine gi_icmp_ne d_W_valuesBy_71 (tgt := 78) (by decide) (by omega) (fun hb71 => ?_) (fun hb71 => False.elim (by omega))
        refine lf_aload_n d_W_valuesBy_78 rfl rfl rfl ?_
        refine lf_aload d_W_valuesBy_79 rfl rfl ?_
        refine lf_iconst d_W_valuesBy_81 (v := Int32.ofInt ((3 : Nat) : Int)) rfl ?_
        refine gi_ialoadN d_W_valuesBy_82 (show spt sh q (.inl (.int, N, 0, fun _ => none)) (101 + k) = _ from (spt_o (by omega)).trans (hr k (by omega))) (by omega) ?_
        refine gi_top g3 ?_
        refine gi_ialoadN d_W_valuesBy_83 (show spt sh q (.inl (.int, N, 0, fun _ => none)) q = _ from spt_s) (by omega) ?_
        refine gi_top (hb.2 (r3 k) (by omega)) ?_
        refine lf_istore d_W_valuesBy_84 (by decide +kernel) (L2 := [(7, _), (6, _), (5, _), (4, _), (3, _), (0, _), (1, _), (2, _)]) rfl ?_
        refine lf_aload_n d_W_valuesBy_86 rfl rfl rfl ?_
        refine lf_iload d_W_valuesBy_87 rfl ?_
        refine lf_aload d_W_valuesBy_89 rfl rfl ?_
        refine lf_iconst d_W_valuesBy_91 (v := Int32.ofInt ((0 : Nat) : Int)) rfl ?_
        refine gi_ialoadN d_W_valuesBy_92 (show spt sh q (.inl (.int, N, 0, fun _ => none)) (101 + k) = _ from (spt_o (by omega)).trans (hr k (by omega))) (by omega) ?_
        refine gi_top (g0.trans hq9) ?_
        refine lf_bipush d_W_valuesBy_93 (v := Int32.ofInt ((97 : Nat) : Int)) (by decide +kernel) ?_
        refine gi_icmp_ne d_W_valuesBy_95 (tgt := 106) (by decide) (by omega) (fun hb95 => ?_) (fun hb95 => False.elim (by omega))
        refine lf_aload d_W_valuesBy_106 rfl rfl ?_
        refine lf_iconst d_W_valuesBy_108 (v := Int32.ofInt ((0 : Nat) : Int)) rfl ?_
        refine gi_ialoadN d_W_valuesBy_109 (show spt sh q (.inl (.int, N, 0, fun _ => none)) (101 + k) = _ from (spt_o (by omega)).trans (hr k (by omega))) (by omega) ?_
        refine gi_top (g0.trans hq9) ?_
        refine lf_bipush d_W_valuesBy_110 (v := Int32.ofInt ((111 : Nat) : Int)) (by decide +kernel) ?_
        refine gi_icmp_ne d_W_valuesBy_112 (tgt := 123) (by decide) (by omega) (fun hb112 => ?_) (fun hb112 => False.elim (by omega))
        refine lf_aload d_W_valuesBy_123 rfl rfl ?_
        refine lf_iconst d_W_valuesBy_125 (v := Int32.ofInt ((0 : Nat) : Int)) rfl ?_
        refine gi_ialoadN d_W_valuesBy_126 (show spt sh q (.inl (.int, N, 0, fun _ => none)) (101 + k) = _ from (spt_o (by omega)).trans (hr k (by omega))) (by omega) ?_
        refine gi_top (g0.trans hq9) ?_
        refine lf_bipush d_W_valuesBy_127 (v := Int32.ofInt ((120 : Nat) : Int)) (by decide +kernel) ?_
        refine gi_icmp_ne d_W_valuesBy_129 (tgt := 140) (by decide) (by omega) (fun hb129 => ?_) (fun hb129 => False.elim (by omega))
        refine lf_aload d_W_valuesBy_140 rfl rfl ?_
        refine lf_iconst d_W_valuesBy_142 (v := Int32.ofInt ((0 : Nat) : Int)) rfl ?_
        refine gi_ialoadN d_W_valuesBy_143 (show spt sh q (.inl (.int, N, 0, fun _ => none)) (101 + k) = _ from (spt_o (by omega)).trans (hr k (by omega))) (by omega) ?_
        refine gi_top (g0.trans hq9) ?_
        refine lf_bipush d_W_valuesBy_144 (v := Int32.ofInt ((110 : Nat) : Int)) (by decide +kernel) ?_
        refine gi_icmp_ne d_W_valuesBy_146 (tgt := 159) (by decide) (by omega) (fun hb146 => False.elim (by omega)) (fun hb146 => ?_)
        refine lf_iconst d_W_valuesBy_149 (v := Int32.ofInt ((1 : Nat) : Int)) rfl ?_
        refine lf_iload d_W_valuesBy_150 rfl ?_
        refine lf_iload d_W_valuesBy_152 rfl ?_
        refine gi_iandN (a := bn (vlw N s kd r2 r3 c (r2 k))) (b := bn (vlw N s kd r2 r3 c (r3 k))) d_W_valuesBy_154 ?_
        refine gi_isubN (a := 1) (b := (bn (vlw N s kd r2 r3 c (r2 k)) &&& bn (vlw N s kd r2 r3 c (r3 k)))) d_W_valuesBy_155 (by omega) ?_
        refine lf_goto d_W_valuesBy_156 (tgt := 196) (by decide) ?_
        refine gi_iastoreN d_W_valuesBy_196 (show spt sh q (.inl (.int, N, 0, fun _ => none)) q = _ from spt_s) (by omega) ?_
        refine gi_iincN d_W_valuesBy_197 rfl (by decide +kernel) (L2 := [(4, _), (7, _), (6, _), (5, _), (3, _), (0, _), (1, _), (2, _)]) rfl ?_
        refine lf_goto d_W_valuesBy_200 (tgt := 8) (by decide) ?_
        refine lf_sub [0, 4, 5, 6, 7] rfl ?_
        exact nxt9 _ (by rw [vlw_g (N := N) (s := s) (kd := kd) (r2 := r2) (r3 := r3) (c := c) (j := k) (by omega) (by omega) g9.1 g9.2, hq9]; exact gB_110 _ _)
      · have l1 := bn_and (vlw N s kd r2 r3 c (r2 k)) (vlw N s kd r2 r3 c (r3 k))
        have l2 := bn_or (vlw N s kd r2 r3 c (r2 k)) (vlw N s kd r2 r3 c (r3 k))
        have l3 := bn_le (vlw N s kd r2 r3 c (r2 k))
        refine lf_iload d_W_valuesBy_8 rfl ?_
        refine lf_aload_n d_W_valuesBy_10 rfl rfl rfl ?_
        refine gi_len d_W_valuesBy_11 (show spt sh q (.inl (.int, N, 0, fun _ => none)) 100 = _ from (spt_o (by omega)).trans hs0) ?_
        refine gi_icmp_ge d_W_valuesBy_12 (tgt := 203) (by decide) (by omega) (fun hb12 => False.elim (by omega)) (fun hb12 => ?_)
        refine lf_aload_n d_W_valuesBy_15 rfl rfl rfl ?_
        refine lf_iload d_W_valuesBy_16 rfl ?_
        refine gi_aald (kd := 0) d_W_valuesBy_18 rfl ((spt_o (by omega)).trans hs0) (by omega) (hf k (by omega)) ?_
        refine lf_astore d_W_valuesBy_19 (by decide +kernel) rfl (L2 := [(5, _), (4, _), (3, _), (0, _), (1, _), (2, _)]) rfl ?_
        refine lf_aload d_W_valuesBy_21 rfl rfl ?_
        refine lf_iconst d_W_valuesBy_23 (v := Int32.ofInt ((0 : Nat) : Int)) rfl ?_
        refine gi_ialoadN d_W_valuesBy_24 (show spt sh q (.inl (.int, N, 0, fun _ => none)) (101 + k) = _ from (spt_o (by omega)).trans (hr k (by omega))) (by omega) ?_
        refine gi_top (g0.trans hq9) ?_
        refine lf_bipush d_W_valuesBy_25 (v := Int32.ofInt ((105 : Nat) : Int)) (by decide +kernel) ?_
        refine gi_icmp_eq d_W_valuesBy_27 (tgt := 39) (by decide) (by omega) (fun hb27 => False.elim (by omega)) (fun hb27 => ?_)
        refine lf_aload d_W_valuesBy_30 rfl rfl ?_
        refine lf_iconst d_W_valuesBy_32 (v := Int32.ofInt ((0 : Nat) : Int)) rfl ?_
        refine gi_ialoadN d_W_valuesBy_33 (show spt sh q (.inl (.int, N, 0, fun _ => none)) (101 + k) = _ from (spt_o (by omega)).trans (hr k (by omega))) (by omega) ?_
        refine gi_top (g0.trans hq9) ?_
        refine lf_bipush d_W_valuesBy_34 (v := Int32.ofInt ((99 : Nat) : Int)) (by decide +kernel) ?_
        refine gi_icmp_ne d_W_valuesBy_36 (tgt := 48) (by decide) (by omega) (fun hb36 => ?_) (fun hb36 => False.elim (by omega))
        refine lf_aload_n d_W_valuesBy_48 rfl rfl rfl ?_
        refine lf_aload d_W_valuesBy_49 rfl rfl ?_
        refine lf_iconst d_W_valuesBy_51 (v := Int32.ofInt ((2 : Nat) : Int)) rfl ?_
        refine gi_ialoadN d_W_valuesBy_52 (show spt sh q (.inl (.int, N, 0, fun _ => none)) (101 + k) = _ from (spt_o (by omega)).trans (hr k (by omega))) (by omega) ?_
        refine gi_top g2 ?_
        refine gi_ialoadN d_W_valuesBy_53 (show spt sh q (.inl (.int, N, 0, fun _ => none)) q = _ from spt_s) (by omega) ?_
        refine gi_top (hb.2 (r2 k) (by omega)) ?_
        refine lf_istore d_W_valuesBy_54 (by decide +kernel) (L2 := [(6, _), (5, _), (4, _), (3, _), (0, _), (1, _), (2, _)]) rfl ?_
        refine lf_aload d_W_valuesBy_56 rfl rfl ?_
        refine lf_iconst d_W_valuesBy_58 (v := Int32.ofInt ((0 : Nat) : Int)) rfl ?_
        refine gi_ialoadN d_W_valuesBy_59 (show spt sh q (.inl (.int, N, 0, fun _ => none)) (101 + k) = _ from (spt_o (by omega)).trans (hr k (by omega))) (by omega) ?_
        refine gi_top (g0.trans hq9) ?_
        refine lf_bipush d_W_valuesBy_60 (v := Int32.ofInt ((105 : Nat) : Int)) (by decide +kernel) ?_
        refine gi_icmp_eq d_W_valuesBy_62 (tgt := 74) (by decide) (by omega) (fun hb62 => False.elim (by omega)) (fun hb62 => ?_)
        refine lf_aload d_W_valuesBy_65 rfl rfl ?_
        refine lf_iconst d_W_valuesBy_67 (v := Int32.ofInt ((0 : Nat) : Int)) rfl ?_
        refine gi_ialoadN d_W_valuesBy_68 (show spt sh q (.inl (.int, N, 0, fun _ => none)) (101 + k) = _ from (spt_o (by omega)).trans (hr k (by omega))) (by omega) ?_
        refine gi_top (g0.trans hq9) ?_
        refine lf_bipush d_W_valuesBy_69 (v := Int32.ofInt ((99 : Nat) : Int)) (by decide +kernel) ?_
        refine gi_icmp_ne d_W_valuesBy_71 (tgt := 78) (by decide) (by omega) (fun hb71 => ?_) (fun hb71 => False.elim (by omega))
        refine lf_aload_n d_W_valuesBy_78 rfl rfl rfl ?_
        refine lf_aload d_W_valuesBy_79 rfl rfl ?_
        refine lf_iconst d_W_valuesBy_81 (v := Int32.ofInt ((3 : Nat) : Int)) rfl ?_
        refine gi_ialoadN d_W_valuesBy_82 (show spt sh q (.inl (.int, N, 0, fun _ => none)) (101 + k) = _ from (spt_o (by omega)).trans (hr k (by omega))) (by omega) ?_
        refine gi_top g3 ?_
        refine gi_ialoadN d_W_valuesBy_83 (show spt sh q (.inl (.int, N, 0, fun _ => none)) q = _ from spt_s) (by omega) ?_
        refine gi_top (hb.2 (r3 k) (by omega)) ?_
        refine lf_istore d_W_valuesBy_84 (by decide +kernel) (L2 := [(7, _), (6, _), (5, _), (4, _), (3, _), (0, _), (1, _), (2, _)]) rfl ?_
        refine lf_aload_n d_W_valuesBy_86 rfl rfl rfl ?_
        refine lf_iload d_W_valuesBy_87 rfl ?_
        refine lf_aload d_W_valuesBy_89 rfl rfl ?_
        refine lf_iconst d_W_valuesBy_91 (v := Int32.ofInt ((0 : Nat) : Int)) rfl ?_
        refine gi_ialoadN d_W_valuesBy_92 (show spt sh q (.inl (.int, N, 0, fun _ => none)) (101 + k) = _ from (spt_o (by omega)).trans (hr k (by omega))) (by omega) ?_
        refine gi_top (g0.trans hq9) ?_
        refine lf_bipush d_W_valuesBy_93 (v := Int32.ofInt ((97 : Nat) : Int)) (by decide +kernel) ?_
        refine gi_icmp_ne d_W_valuesBy_95 (tgt := 106) (by decide) (by omega) (fun hb95 => ?_) (fun hb95 => False.elim (by omega))
        refine lf_aload d_W_valuesBy_106 rfl rfl ?_
        refine lf_iconst d_W_valuesBy_108 (v := Int32.ofInt ((0 : Nat) : Int)) rfl ?_
        refine gi_ialoadN d_W_valuesBy_109 (show spt sh q (.inl (.int, N, 0, fun _ => none)) (101 + k) = _ from (spt_o (by omega)).trans (hr k (by omega))) (by omega) ?_
        refine gi_top (g0.trans hq9) ?_
        refine lf_bipush d_W_valuesBy_110 (v := Int32.ofInt ((111 : Nat) : Int)) (by decide +kernel) ?_
        refine gi_icmp_ne d_W_valuesBy_112 (tgt := 123) (by decide) (by omega) (fun hb112 => False.elim (by omega)) (fun hb112 => ?_)
        refine lf_iload d_W_valuesBy_115 rfl ?_
        refine lf_iload d_W_valuesBy_117 rfl ?_
        refine gi_iorN (a := bn (vlw N s kd r2 r3 c (r2 k))) (b := bn (vlw N s kd r2 r3 c (r3 k))) d_W_valuesBy_119 ?_
        refine lf_goto d_W_valuesBy_120 (tgt := 196) (by decide) ?_
        refine gi_iastoreN d_W_valuesBy_196 (show spt sh q (.inl (.int, N, 0, fun _ => none)) q = _ from spt_s) (by omega) ?_
        refine gi_iincN d_W_valuesBy_197 rfl (by decide +kernel) (L2 := [(4, _), (7, _), (6, _), (5, _), (3, _), (0, _), (1, _), (2, _)]) rfl ?_
        refine lf_goto d_W_valuesBy_200 (tgt := 8) (by decide) ?_
        refine lf_sub [0, 4, 5, 6, 7] rfl ?_
        exact nxt9 _ (by rw [vlw_g (N := N) (s := s) (kd := kd) (r2 := r2) (r3 := r3) (c := c) (j := k) (by omega) (by omega) g9.1 g9.2, hq9]; exact gB_111 _ _)
      · have l1 := bn_and (vlw N s kd r2 r3 c (r2 k)) (vlw N s kd r2 r3 c (r3 k))
        have l2 := bn_or (vlw N s kd r2 r3 c (r2 k)) (vlw N s kd r2 r3 c (r3 k))
        have l3 := bn_le (vlw N s kd r2 r3 c (r2 k))
        refine lf_iload d_W_valuesBy_8 rfl ?_
        refine lf_aload_n d_W_valuesBy_10 rfl rfl rfl ?_
        refine gi_len d_W_valuesBy_11 (show spt sh q (.inl (.int, N, 0, fun _ => none)) 100 = _ from (spt_o (by omega)).trans hs0) ?_
        refine gi_icmp_ge d_W_valuesBy_12 (tgt := 203) (by decide) (by omega) (fun hb12 => False.elim (by omega)) (fun hb12 => ?_)
        refine lf_aload_n d_W_valuesBy_15 rfl rfl rfl ?_
        refine lf_iload d_W_valuesBy_16 rfl ?_
        refine gi_aald (kd := 0) d_W_valuesBy_18 rfl ((spt_o (by omega)).trans hs0) (by omega) (hf k (by omega)) ?_
        refine lf_astore d_W_valuesBy_19 (by decide +kernel) rfl (L2 := [(5, _), (4, _), (3, _), (0, _), (1, _), (2, _)]) rfl ?_
        refine lf_aload d_W_valuesBy_21 rfl rfl ?_
        refine lf_iconst d_W_valuesBy_23 (v := Int32.ofInt ((0 : Nat) : Int)) rfl ?_
        refine gi_ialoadN d_W_valuesBy_24 (show spt sh q (.inl (.int, N, 0, fun _ => none)) (101 + k) = _ from (spt_o (by omega)).trans (hr k (by omega))) (by omega) ?_
        refine gi_top (g0.trans hq9) ?_
        refine lf_bipush d_W_valuesBy_25 (v := Int32.ofInt ((105 : Nat) : Int)) (by decide +kernel) ?_
        refine gi_icmp_eq d_W_valuesBy_27 (tgt := 39) (by decide) (by omega) (fun hb27 => False.elim (by omega)) (fun hb27 => ?_)
        refine lf_aload d_W_valuesBy_30 rfl rfl ?_
        refine lf_iconst d_W_valuesBy_32 (v := Int32.ofInt ((0 : Nat) : Int)) rfl ?_
        refine gi_ialoadN d_W_valuesBy_33 (show spt sh q (.inl (.int, N, 0, fun _ => none)) (101 + k) = _ from (spt_o (by omega)).trans (hr k (by omega))) (by omega) ?_
        refine gi_top (g0.trans hq9) ?_
        refine lf_bipush d_W_valuesBy_34 (v := Int32.ofInt ((99 : Nat) : Int)) (by decide +kernel) ?_
        refine gi_icmp_ne d_W_valuesBy_36 (tgt := 48) (by decide) (by omega) (fun hb36 => ?_) (fun hb36 => False.elim (by omega))
        refine lf_aload_n d_W_valuesBy_48 rfl rfl rfl ?_
        refine lf_aload d_W_valuesBy_49 rfl rfl ?_
        refine lf_iconst d_W_valuesBy_51 (v := Int32.ofInt ((2 : Nat) : Int)) rfl ?_
        refine gi_ialoadN d_W_valuesBy_52 (show spt sh q (.inl (.int, N, 0, fun _ => none)) (101 + k) = _ from (spt_o (by omega)).trans (hr k (by omega))) (by omega) ?_
        refine gi_top g2 ?_
        refine gi_ialoadN d_W_valuesBy_53 (show spt sh q (.inl (.int, N, 0, fun _ => none)) q = _ from spt_s) (by omega) ?_
        refine gi_top (hb.2 (r2 k) (by omega)) ?_
        refine lf_istore d_W_valuesBy_54 (by decide +kernel) (L2 := [(6, _), (5, _), (4, _), (3, _), (0, _), (1, _), (2, _)]) rfl ?_
        refine lf_aload d_W_valuesBy_56 rfl rfl ?_
        refine lf_iconst d_W_valuesBy_58 (v := Int32.ofInt ((0 : Nat) : Int)) rfl ?_
        refine gi_ialoadN d_W_valuesBy_59 (show spt sh q (.inl (.int, N, 0, fun _ => none)) (101 + k) = _ from (spt_o (by omega)).trans (hr k (by omega))) (by omega) ?_
        refine gi_top (g0.trans hq9) ?_
        refine lf_bipush d_W_valuesBy_60 (v := Int32.ofInt ((105 : Nat) : Int)) (by decide +kernel) ?_
        refine gi_icmp_eq d_W_valuesBy_62 (tgt := 74) (by decide) (by omega) (fun hb62 => False.elim (by omega)) (fun hb62 => ?_)
        refine lf_aload d_W_valuesBy_65 rfl rfl ?_
        refine lf_iconst d_W_valuesBy_67 (v := Int32.ofInt ((0 : Nat) : Int)) rfl ?_
        refine gi_ialoadN d_W_valuesBy_68 (show spt sh q (.inl (.int, N, 0, fun _ => none)) (101 + k) = _ from (spt_o (by omega)).trans (hr k (by omega))) (by omega) ?_
        refine gi_top (g0.trans hq9) ?_
        refine lf_bipush d_W_valuesBy_69 (v := Int32.ofInt ((99 : Nat) : Int)) (by decide +kernel) ?_
        refine gi_icmp_ne d_W_valuesBy_71 (tgt := 78) (by decide) (by omega) (fun hb71 => ?_) (fun hb71 => False.elim (by omega))
        refine lf_aload_n d_W_valuesBy_78 rfl rfl rfl ?_
        refine lf_aload d_W_valuesBy_79 rfl rfl ?_
        refine lf_iconst d_W_valuesBy_81 (v := Int32.ofInt ((3 : Nat) : Int)) rfl ?_
        refine gi_ialoadN d_W_valuesBy_82 (show spt sh q (.inl (.int, N, 0, fun _ => none)) (101 + k) = _ from (spt_o (by omega)).trans (hr k (by omega))) (by omega) ?_
        refine gi_top g3 ?_
        refine gi_ialoadN d_W_valuesBy_83 (show spt sh q (.inl (.int, N, 0, fun _ => none)) q = _ from spt_s) (by omega) ?_
        refine gi_top (hb.2 (r3 k) (by omega)) ?_
        refine lf_istore d_W_valuesBy_84 (by decide +kernel) (L2 := [(7, _), (6, _), (5, _), (4, _), (3, _), (0, _), (1, _), (2, _)]) rfl ?_
        refine lf_aload_n d_W_valuesBy_86 rfl rfl rfl ?_
        refine lf_iload d_W_valuesBy_87 rfl ?_
        refine lf_aload d_W_valuesBy_89 rfl rfl ?_
        refine lf_iconst d_W_valuesBy_91 (v := Int32.ofInt ((0 : Nat) : Int)) rfl ?_
        refine gi_ialoadN d_W_valuesBy_92 (show spt sh q (.inl (.int, N, 0, fun _ => none)) (101 + k) = _ from (spt_o (by omega)).trans (hr k (by omega))) (by omega) ?_
        refine gi_top (g0.trans hq9) ?_
        refine lf_bipush d_W_valuesBy_93 (v := Int32.ofInt ((97 : Nat) : Int)) (by decide +kernel) ?_
        refine gi_icmp_ne d_W_valuesBy_95 (tgt := 106) (by decide) (by omega) (fun hb95 => ?_) (fun hb95 => False.elim (by omega))
        refine lf_aload d_W_valuesBy_106 rfl rfl ?_
        refine lf_iconst d_W_valuesBy_108 (v := Int32.ofInt ((0 : Nat) : Int)) rfl ?_
        refine gi_ialoadN d_W_valuesBy_109 (show spt sh q (.inl (.int, N, 0, fun _ => none)) (101 + k) = _ from (spt_o (by omega)).trans (hr k (by omega))) (by omega) ?_
        refine gi_top (g0.trans hq9) ?_
        refine lf_bipush d_W_valuesBy_110 (v := Int32.ofInt ((111 : Nat) : Int)) (by decide +kernel) ?_
        refine gi_icmp_ne d_W_valuesBy_112 (tgt := 123) (by decide) (by omega) (fun hb112 => ?_) (fun hb112 => False.elim (by omega))
        refine lf_aload d_W_valuesBy_123 rfl rfl ?_
        refine lf_iconst d_W_valuesBy_125 (v := Int32.ofInt ((0 : Nat) : Int)) rfl ?_
        refine gi_ialoadN d_W_valuesBy_126 (show spt sh q (.inl (.int, N, 0, fun _ => none)) (101 + k) = _ from (spt_o (by omega)).trans (hr k (by omega))) (by omega) ?_
        refine gi_top (g0.trans hq9) ?_
        refine lf_bipush d_W_valuesBy_127 (v := Int32.ofInt ((120 : Nat) : Int)) (by decide +kernel) ?_
        refine gi_icmp_ne d_W_valuesBy_129 (tgt := 140) (by decide) (by omega) (fun hb129 => ?_) (fun hb129 => False.elim (by omega))
        refine lf_aload d_W_valuesBy_140 rfl rfl ?_
        refine lf_iconst d_W_valuesBy_142 (v := Int32.ofInt ((0 : Nat) : Int)) rfl ?_
        refine gi_ialoadN d_W_valuesBy_143 (show spt sh q (.inl (.int, N, 0, fun _ => none)) (101 + k) = _ from (spt_o (by omega)).trans (hr k (by omega))) (by omega) ?_
        refine gi_top (g0.trans hq9) ?_
        refine lf_bipush d_W_valuesBy_144 (v := Int32.ofInt ((110 : Nat) : Int)) (by decide +kernel) ?_
        refine gi_icmp_ne d_W_valuesBy_146 (tgt := 159) (by decide) (by omega) (fun hb146 => ?_) (fun hb146 => False.elim (by omega))
        refine lf_aload d_W_valuesBy_159 rfl rfl ?_
        refine lf_iconst d_W_valuesBy_161 (v := Int32.ofInt ((0 : Nat) : Int)) rfl ?_
        refine gi_ialoadN d_W_valuesBy_162 (show spt sh q (.inl (.int, N, 0, fun _ => none)) (101 + k) = _ from (spt_o (by omega)).trans (hr k (by omega))) (by omega) ?_
        refine gi_top (g0.trans hq9) ?_
        refine lf_bipush d_W_valuesBy_163 (v := Int32.ofInt ((114 : Nat) : Int)) (by decide +kernel) ?_
        refine gi_icmp_ne d_W_valuesBy_165 (tgt := 178) (by decide) (by omega) (fun hb165 => False.elim (by omega)) (fun hb165 => ?_)
        refine lf_iconst d_W_valuesBy_168 (v := Int32.ofInt ((1 : Nat) : Int)) rfl ?_
        refine lf_iload d_W_valuesBy_169 rfl ?_
        refine lf_iload d_W_valuesBy_171 rfl ?_
        refine gi_iorN (a := bn (vlw N s kd r2 r3 c (r2 k))) (b := bn (vlw N s kd r2 r3 c (r3 k))) d_W_valuesBy_173 ?_
        refine gi_isubN (a := 1) (b := (bn (vlw N s kd r2 r3 c (r2 k)) ||| bn (vlw N s kd r2 r3 c (r3 k)))) d_W_valuesBy_174 (by omega) ?_
        refine lf_goto d_W_valuesBy_175 (tgt := 196) (by decide) ?_
        refine gi_iastoreN d_W_valuesBy_196 (show spt sh q (.inl (.int, N, 0, fun _ => none)) q = _ from spt_s) (by omega) ?_
        refine gi_iincN d_W_valuesBy_197 rfl (by decide +kernel) (L2 := [(4, _), (7, _), (6, _), (5, _), (3, _), (0, _), (1, _), (2, _)]) rfl ?_
        refine lf_goto d_W_valuesBy_200 (tgt := 8) (by decide) ?_
        refine lf_sub [0, 4, 5, 6, 7] rfl ?_
        exact nxt9 _ (by rw [vlw_g (N := N) (s := s) (kd := kd) (r2 := r2) (r3 := r3) (c := c) (j := k) (by omega) (by omega) g9.1 g9.2, hq9]; exact gB_114 _ _)
      · have l1 := bn_and (vlw N s kd r2 r3 c (r2 k)) (vlw N s kd r2 r3 c (r3 k))
        have l2 := bn_or (vlw N s kd r2 r3 c (r2 k)) (vlw N s kd r2 r3 c (r3 k))
        have l3 := bn_le (vlw N s kd r2 r3 c (r2 k))
        refine lf_iload d_W_valuesBy_8 rfl ?_
        refine lf_aload_n d_W_valuesBy_10 rfl rfl rfl ?_
        refine gi_len d_W_valuesBy_11 (show spt sh q (.inl (.int, N, 0, fun _ => none)) 100 = _ from (spt_o (by omega)).trans hs0) ?_
        refine gi_icmp_ge d_W_valuesBy_12 (tgt := 203) (by decide) (by omega) (fun hb12 => False.elim (by omega)) (fun hb12 => ?_)
        refine lf_aload_n d_W_valuesBy_15 rfl rfl rfl ?_
        refine lf_iload d_W_valuesBy_16 rfl ?_
        refine gi_aald (kd := 0) d_W_valuesBy_18 rfl ((spt_o (by omega)).trans hs0) (by omega) (hf k (by omega)) ?_
        refine lf_astore d_W_valuesBy_19 (by decide +kernel) rfl (L2 := [(5, _), (4, _), (3, _), (0, _), (1, _), (2, _)]) rfl ?_
        refine lf_aload d_W_valuesBy_21 rfl rfl ?_
        refine lf_iconst d_W_valuesBy_23 (v := Int32.ofInt ((0 : Nat) : Int)) rfl ?_
        refine gi_ialoadN d_W_valuesBy_24 (show spt sh q (.inl (.int, N, 0, fun _ => none)) (101 + k) = _ from (spt_o (by omega)).trans (hr k (by omega))) (by omega) ?_
        refine gi_top (g0.trans hq9) ?_
        refine lf_bipush d_W_valuesBy_25 (v := Int32.ofInt ((105 : Nat) : Int)) (by decide +kernel) ?_
        refine gi_icmp_eq d_W_valuesBy_27 (tgt := 39) (by decide) (by omega) (fun hb27 => False.elim (by omega)) (fun hb27 => ?_)
        refine lf_aload d_W_valuesBy_30 rfl rfl ?_
        refine lf_iconst d_W_valuesBy_32 (v := Int32.ofInt ((0 : Nat) : Int)) rfl ?_
        refine gi_ialoadN d_W_valuesBy_33 (show spt sh q (.inl (.int, N, 0, fun _ => none)) (101 + k) = _ from (spt_o (by omega)).trans (hr k (by omega))) (by omega) ?_
        refine gi_top (g0.trans hq9) ?_
        refine lf_bipush d_W_valuesBy_34 (v := Int32.ofInt ((99 : Nat) : Int)) (by decide +kernel) ?_
        refine gi_icmp_ne d_W_valuesBy_36 (tgt := 48) (by decide) (by omega) (fun hb36 => ?_) (fun hb36 => False.elim (by omega))
        refine lf_aload_n d_W_valuesBy_48 rfl rfl rfl ?_
        refine lf_aload d_W_valuesBy_49 rfl rfl ?_
        refine lf_iconst d_W_valuesBy_51 (v := Int32.ofInt ((2 : Nat) : Int)) rfl ?_
        refine gi_ialoadN d_W_valuesBy_52 (show spt sh q (.inl (.int, N, 0, fun _ => none)) (101 + k) = _ from (spt_o (by omega)).trans (hr k (by omega))) (by omega) ?_
        refine gi_top g2 ?_
        refine gi_ialoadN d_W_valuesBy_53 (show spt sh q (.inl (.int, N, 0, fun _ => none)) q = _ from spt_s) (by omega) ?_
        refine gi_top (hb.2 (r2 k) (by omega)) ?_
        refine lf_istore d_W_valuesBy_54 (by decide +kernel) (L2 := [(6, _), (5, _), (4, _), (3, _), (0, _), (1, _), (2, _)]) rfl ?_
        refine lf_aload d_W_valuesBy_56 rfl rfl ?_
        refine lf_iconst d_W_valuesBy_58 (v := Int32.ofInt ((0 : Nat) : Int)) rfl ?_
        refine gi_ialoadN d_W_valuesBy_59 (show spt sh q (.inl (.int, N, 0, fun _ => none)) (101 + k) = _ from (spt_o (by omega)).trans (hr k (by omega))) (by omega) ?_
        refine gi_top (g0.trans hq9) ?_
        refine lf_bipush d_W_valuesBy_60 (v := Int32.ofInt ((105 : Nat) : Int)) (by decide +kernel) ?_
        refine gi_icmp_eq d_W_valuesBy_62 (tgt := 74) (by decide) (by omega) (fun hb62 => False.elim (by omega)) (fun hb62 => ?_)
        refine lf_aload d_W_valuesBy_65 rfl rfl ?_
        refine lf_iconst d_W_valuesBy_67 (v := Int32.ofInt ((0 : Nat) : Int)) rfl ?_
        refine gi_ialoadN d_W_valuesBy_68 (show spt sh q (.inl (.int, N, 0, fun _ => none)) (101 + k) = _ from (spt_o (by omega)).trans (hr k (by omega))) (by omega) ?_
        refine gi_top (g0.trans hq9) ?_
        refine lf_bipush d_W_valuesBy_69 (v := Int32.ofInt ((99 : Nat) : Int)) (by decide +kernel) ?_
        refine gi_icmp_ne d_W_valuesBy_71 (tgt := 78) (by decide) (by omega) (fun hb71 => ?_) (fun hb71 => False.elim (by omega))
        refine lf_aload_n d_W_valuesBy_78 rfl rfl rfl ?_
        refine lf_aload d_W_valuesBy_79 rfl rfl ?_
        refine lf_iconst d_W_valuesBy_81 (v := Int32.ofInt ((3 : Nat) : Int)) rfl ?_
        refine gi_ialoadN d_W_valuesBy_82 (show spt sh q (.inl (.int, N, 0, fun _ => none)) (101 + k) = _ from (spt_o (by omega)).trans (hr k (by omega))) (by omega) ?_
        refine gi_top g3 ?_
        refine gi_ialoadN d_W_valuesBy_83 (show spt sh q (.inl (.int, N, 0, fun _ => none)) q = _ from spt_s) (by omega) ?_
        refine gi_top (hb.2 (r3 k) (by omega)) ?_
        refine lf_istore d_W_valuesBy_84 (by decide +kernel) (L2 := [(7, _), (6, _), (5, _), (4, _), (3, _), (0, _), (1, _), (2, _)]) rfl ?_
        refine lf_aload_n d_W_valuesBy_86 rfl rfl rfl ?_
        refine lf_iload d_W_valuesBy_87 rfl ?_
        refine lf_aload d_W_valuesBy_89 rfl rfl ?_
        refine lf_iconst d_W_valuesBy_91 (v := Int32.ofInt ((0 : Nat) : Int)) rfl ?_
        refine gi_ialoadN d_W_valuesBy_92 (show spt sh q (.inl (.int, N, 0, fun _ => none)) (101 + k) = _ from (spt_o (by omega)).trans (hr k (by omega))) (by omega) ?_
        refine gi_top (g0.trans hq9) ?_
        refine lf_bipush d_W_valuesBy_93 (v := Int32.ofInt ((97 : Nat) : Int)) (by decide +kernel) ?_
        refine gi_icmp_ne d_W_valuesBy_95 (tgt := 106) (by decide) (by omega) (fun hb95 => ?_) (fun hb95 => False.elim (by omega))
        refine lf_aload d_W_valuesBy_106 rfl rfl ?_
        refine lf_iconst d_W_valuesBy_108 (v := Int32.ofInt ((0 : Nat) : Int)) rfl ?_
        refine gi_ialoadN d_W_valuesBy_109 (show spt sh q (.inl (.int, N, 0, fun _ => none)) (101 + k) = _ from (spt_o (by omega)).trans (hr k (by omega))) (by omega) ?_
        refine gi_top (g0.trans hq9) ?_
        refine lf_bipush d_W_valuesBy_110 (v := Int32.ofInt ((111 : Nat) : Int)) (by decide +kernel) ?_
        refine gi_icmp_ne d_W_valuesBy_112 (tgt := 123) (by decide) (by omega) (fun hb112 => ?_) (fun hb112 => False.elim (by omega))
        refine lf_aload d_W_valuesBy_123 rfl rfl ?_
        refine lf_iconst d_W_valuesBy_125 (v := Int32.ofInt ((0 : Nat) : Int)) rfl ?_
        refine gi_ialoadN d_W_valuesBy_126 (show spt sh q (.inl (.int, N, 0, fun _ => none)) (101 + k) = _ from (spt_o (by omega)).trans (hr k (by omega))) (by omega) ?_
        refine gi_top (g0.trans hq9) ?_
        refine lf_bipush d_W_valuesBy_127 (v := Int32.ofInt ((120 : Nat) : Int)) (by decide +kernel) ?_
        refine gi_icmp_ne d_W_valuesBy_129 (tgt := 140) (by decide) (by omega) (fun hb129 => False.elim (by omega)) (fun hb129 => ?_)
        refine lf_iload d_W_valuesBy_132 rfl ?_
        refine lf_iload d_W_valuesBy_134 rfl ?_
        refine gi_ixorN (a := bn (vlw N s kd r2 r3 c (r2 k))) (b := bn (vlw N s kd r2 r3 c (r3 k))) d_W_valuesBy_136 ?_
        refine lf_goto d_W_valuesBy_137 (tgt := 196) (by decide) ?_
        refine gi_iastoreN d_W_valuesBy_196 (show spt sh q (.inl (.int, N, 0, fun _ => none)) q = _ from spt_s) (by omega) ?_
        refine gi_iincN d_W_valuesBy_197 rfl (by decide +kernel) (L2 := [(4, _), (7, _), (6, _), (5, _), (3, _), (0, _), (1, _), (2, _)]) rfl ?_
        refine lf_goto d_W_valuesBy_200 (tgt := 8) (by decide) ?_
        refine lf_sub [0, 4, 5, 6, 7] rfl ?_
        exact nxt9 _ (by rw [vlw_g (N := N) (s := s) (kd := kd) (r2 := r2) (r3 := r3) (c := c) (j := k) (by omega) (by omega) g9.1 g9.2, hq9]; exact gB_120 _ _)
      · have l1 := bn_and (vlw N s kd r2 r3 c (r2 k)) (vlw N s kd r2 r3 c (r3 k))
        have l2 := bn_or (vlw N s kd r2 r3 c (r2 k)) (vlw N s kd r2 r3 c (r3 k))
        have l3 := bn_le (vlw N s kd r2 r3 c (r2 k))
        refine lf_iload d_W_valuesBy_8 rfl ?_
        refine lf_aload_n d_W_valuesBy_10 rfl rfl rfl ?_
        refine gi_len d_W_valuesBy_11 (show spt sh q (.inl (.int, N, 0, fun _ => none)) 100 = _ from (spt_o (by omega)).trans hs0) ?_
        refine gi_icmp_ge d_W_valuesBy_12 (tgt := 203) (by decide) (by omega) (fun hb12 => False.elim (by omega)) (fun hb12 => ?_)
        refine lf_aload_n d_W_valuesBy_15 rfl rfl rfl ?_
        refine lf_iload d_W_valuesBy_16 rfl ?_
        refine gi_aald (kd := 0) d_W_valuesBy_18 rfl ((spt_o (by omega)).trans hs0) (by omega) (hf k (by omega)) ?_
        refine lf_astore d_W_valuesBy_19 (by decide +kernel) rfl (L2 := [(5, _), (4, _), (3, _), (0, _), (1, _), (2, _)]) rfl ?_
        refine lf_aload d_W_valuesBy_21 rfl rfl ?_
        refine lf_iconst d_W_valuesBy_23 (v := Int32.ofInt ((0 : Nat) : Int)) rfl ?_
        refine gi_ialoadN d_W_valuesBy_24 (show spt sh q (.inl (.int, N, 0, fun _ => none)) (101 + k) = _ from (spt_o (by omega)).trans (hr k (by omega))) (by omega) ?_
        refine gi_top (g0.trans hq9) ?_
        refine lf_bipush d_W_valuesBy_25 (v := Int32.ofInt ((105 : Nat) : Int)) (by decide +kernel) ?_
        refine gi_icmp_eq d_W_valuesBy_27 (tgt := 39) (by decide) (by omega) (fun hb27 => False.elim (by omega)) (fun hb27 => ?_)
        refine lf_aload d_W_valuesBy_30 rfl rfl ?_
        refine lf_iconst d_W_valuesBy_32 (v := Int32.ofInt ((0 : Nat) : Int)) rfl ?_
        refine gi_ialoadN d_W_valuesBy_33 (show spt sh q (.inl (.int, N, 0, fun _ => none)) (101 + k) = _ from (spt_o (by omega)).trans (hr k (by omega))) (by omega) ?_
        refine gi_top (g0.trans hq9) ?_
        refine lf_bipush d_W_valuesBy_34 (v := Int32.ofInt ((99 : Nat) : Int)) (by decide +kernel) ?_
        refine gi_icmp_ne d_W_valuesBy_36 (tgt := 48) (by decide) (by omega) (fun hb36 => ?_) (fun hb36 => False.elim (by omega))
        refine lf_aload_n d_W_valuesBy_48 rfl rfl rfl ?_
        refine lf_aload d_W_valuesBy_49 rfl rfl ?_
        refine lf_iconst d_W_valuesBy_51 (v := Int32.ofInt ((2 : Nat) : Int)) rfl ?_
        refine gi_ialoadN d_W_valuesBy_52 (show spt sh q (.inl (.int, N, 0, fun _ => none)) (101 + k) = _ from (spt_o (by omega)).trans (hr k (by omega))) (by omega) ?_
        refine gi_top g2 ?_
        refine gi_ialoadN d_W_valuesBy_53 (show spt sh q (.inl (.int, N, 0, fun _ => none)) q = _ from spt_s) (by omega) ?_
        refine gi_top (hb.2 (r2 k) (by omega)) ?_
        refine lf_istore d_W_valuesBy_54 (by decide +kernel) (L2 := [(6, _), (5, _), (4, _), (3, _), (0, _), (1, _), (2, _)]) rfl ?_
        refine lf_aload d_W_valuesBy_56 rfl rfl ?_
        refine lf_iconst d_W_valuesBy_58 (v := Int32.ofInt ((0 : Nat) : Int)) rfl ?_
        refine gi_ialoadN d_W_valuesBy_59 (show spt sh q (.inl (.int, N, 0, fun _ => none)) (101 + k) = _ from (spt_o (by omega)).trans (hr k (by omega))) (by omega) ?_
        refine gi_top (g0.trans hq9) ?_
        refine lf_bipush d_W_valuesBy_60 (v := Int32.ofInt ((105 : Nat) : Int)) (by decide +kernel) ?_
        refine gi_icmp_eq d_W_valuesBy_62 (tgt := 74) (by decide) (by omega) (fun hb62 => False.elim (by omega)) (fun hb62 => ?_)
        refine lf_aload d_W_valuesBy_65 rfl rfl ?_
        refine lf_iconst d_W_valuesBy_67 (v := Int32.ofInt ((0 : Nat) : Int)) rfl ?_
        refine gi_ialoadN d_W_valuesBy_68 (show spt sh q (.inl (.int, N, 0, fun _ => none)) (101 + k) = _ from (spt_o (by omega)).trans (hr k (by omega))) (by omega) ?_
        refine gi_top (g0.trans hq9) ?_
        refine lf_bipush d_W_valuesBy_69 (v := Int32.ofInt ((99 : Nat) : Int)) (by decide +kernel) ?_
        refine gi_icmp_ne d_W_valuesBy_71 (tgt := 78) (by decide) (by omega) (fun hb71 => ?_) (fun hb71 => False.elim (by omega))
        refine lf_aload_n d_W_valuesBy_78 rfl rfl rfl ?_
        refine lf_aload d_W_valuesBy_79 rfl rfl ?_
        refine lf_iconst d_W_valuesBy_81 (v := Int32.ofInt ((3 : Nat) : Int)) rfl ?_
        refine gi_ialoadN d_W_valuesBy_82 (show spt sh q (.inl (.int, N, 0, fun _ => none)) (101 + k) = _ from (spt_o (by omega)).trans (hr k (by omega))) (by omega) ?_
        refine gi_top g3 ?_
        refine gi_ialoadN d_W_valuesBy_83 (show spt sh q (.inl (.int, N, 0, fun _ => none)) q = _ from spt_s) (by omega) ?_
        refine gi_top (hb.2 (r3 k) (by omega)) ?_
        refine lf_istore d_W_valuesBy_84 (by decide +kernel) (L2 := [(7, _), (6, _), (5, _), (4, _), (3, _), (0, _), (1, _), (2, _)]) rfl ?_
        refine lf_aload_n d_W_valuesBy_86 rfl rfl rfl ?_
        refine lf_iload d_W_valuesBy_87 rfl ?_
        refine lf_aload d_W_valuesBy_89 rfl rfl ?_
        refine lf_iconst d_W_valuesBy_91 (v := Int32.ofInt ((0 : Nat) : Int)) rfl ?_
        refine gi_ialoadN d_W_valuesBy_92 (show spt sh q (.inl (.int, N, 0, fun _ => none)) (101 + k) = _ from (spt_o (by omega)).trans (hr k (by omega))) (by omega) ?_
        refine gi_top (g0.trans hq9) ?_
        refine lf_bipush d_W_valuesBy_93 (v := Int32.ofInt ((97 : Nat) : Int)) (by decide +kernel) ?_
        refine gi_icmp_ne d_W_valuesBy_95 (tgt := 106) (by decide) (by omega) (fun hb95 => ?_) (fun hb95 => False.elim (by omega))
        refine lf_aload d_W_valuesBy_106 rfl rfl ?_
        refine lf_iconst d_W_valuesBy_108 (v := Int32.ofInt ((0 : Nat) : Int)) rfl ?_
        refine gi_ialoadN d_W_valuesBy_109 (show spt sh q (.inl (.int, N, 0, fun _ => none)) (101 + k) = _ from (spt_o (by omega)).trans (hr k (by omega))) (by omega) ?_
        refine gi_top (g0.trans hq9) ?_
        refine lf_bipush d_W_valuesBy_110 (v := Int32.ofInt ((111 : Nat) : Int)) (by decide +kernel) ?_
        refine gi_icmp_ne d_W_valuesBy_112 (tgt := 123) (by decide) (by omega) (fun hb112 => ?_) (fun hb112 => False.elim (by omega))
        refine lf_aload d_W_valuesBy_123 rfl rfl ?_
        refine lf_iconst d_W_valuesBy_125 (v := Int32.ofInt ((0 : Nat) : Int)) rfl ?_
        refine gi_ialoadN d_W_valuesBy_126 (show spt sh q (.inl (.int, N, 0, fun _ => none)) (101 + k) = _ from (spt_o (by omega)).trans (hr k (by omega))) (by omega) ?_
        refine gi_top (g0.trans hq9) ?_
        refine lf_bipush d_W_valuesBy_127 (v := Int32.ofInt ((120 : Nat) : Int)) (by decide +kernel) ?_
        refine gi_icmp_ne d_W_valuesBy_129 (tgt := 140) (by decide) (by omega) (fun hb129 => ?_) (fun hb129 => False.elim (by omega))
        refine lf_aload d_W_valuesBy_140 rfl rfl ?_
        refine lf_iconst d_W_valuesBy_142 (v := Int32.ofInt ((0 : Nat) : Int)) rfl ?_
        refine gi_ialoadN d_W_valuesBy_143 (show spt sh q (.inl (.int, N, 0, fun _ => none)) (101 + k) = _ from (spt_o (by omega)).trans (hr k (by omega))) (by omega) ?_
        refine gi_top (g0.trans hq9) ?_
        refine lf_bipush d_W_valuesBy_144 (v := Int32.ofInt ((110 : Nat) : Int)) (by decide +kernel) ?_
        refine gi_icmp_ne d_W_valuesBy_146 (tgt := 159) (by decide) (by omega) (fun hb146 => ?_) (fun hb146 => False.elim (by omega))
        refine lf_aload d_W_valuesBy_159 rfl rfl ?_
        refine lf_iconst d_W_valuesBy_161 (v := Int32.ofInt ((0 : Nat) : Int)) rfl ?_
        refine gi_ialoadN d_W_valuesBy_162 (show spt sh q (.inl (.int, N, 0, fun _ => none)) (101 + k) = _ from (spt_o (by omega)).trans (hr k (by omega))) (by omega) ?_
        refine gi_top (g0.trans hq9) ?_
        refine lf_bipush d_W_valuesBy_163 (v := Int32.ofInt ((114 : Nat) : Int)) (by decide +kernel) ?_
        refine gi_icmp_ne d_W_valuesBy_165 (tgt := 178) (by decide) (by omega) (fun hb165 => ?_) (fun hb165 => False.elim (by omega))
        refine lf_aload d_W_valuesBy_178 rfl rfl ?_
        refine lf_iconst d_W_valuesBy_180 (v := Int32.ofInt ((0 : Nat) : Int)) rfl ?_
        refine gi_ialoadN d_W_valuesBy_181 (show spt sh q (.inl (.int, N, 0, fun _ => none)) (101 + k) = _ from (spt_o (by omega)).trans (hr k (by omega))) (by omega) ?_
        refine gi_top (g0.trans hq9) ?_
        refine lf_bipush d_W_valuesBy_182 (v := Int32.ofInt ((118 : Nat) : Int)) (by decide +kernel) ?_
        refine gi_icmp_ne d_W_valuesBy_184 (tgt := 194) (by decide) (by omega) (fun hb184 => False.elim (by omega)) (fun hb184 => ?_)
        refine lf_iconst d_W_valuesBy_187 (v := Int32.ofInt ((1 : Nat) : Int)) rfl ?_
        refine lf_iload d_W_valuesBy_188 rfl ?_
        refine gi_isubN (a := 1) (b := bn (vlw N s kd r2 r3 c (r2 k))) d_W_valuesBy_190 (by omega) ?_
        refine lf_goto d_W_valuesBy_191 (tgt := 196) (by decide) ?_
        refine gi_iastoreN d_W_valuesBy_196 (show spt sh q (.inl (.int, N, 0, fun _ => none)) q = _ from spt_s) (by omega) ?_
        refine gi_iincN d_W_valuesBy_197 rfl (by decide +kernel) (L2 := [(4, _), (7, _), (6, _), (5, _), (3, _), (0, _), (1, _), (2, _)]) rfl ?_
        refine lf_goto d_W_valuesBy_200 (tgt := 8) (by decide) ?_
        refine lf_sub [0, 4, 5, 6, 7] rfl ?_
        exact nxt9 _ (by rw [vlw_g (N := N) (s := s) (kd := kd) (r2 := r2) (r3 := r3) (c := c) (j := k) (by omega) (by omega) g9.1 g9.2, hq9]; exact gB_118 _ _)
      · have l1 := bn_and (vlw N s kd r2 r3 c (r2 k)) (vlw N s kd r2 r3 c (r3 k))
        have l2 := bn_or (vlw N s kd r2 r3 c (r2 k)) (vlw N s kd r2 r3 c (r3 k))
        have l3 := bn_le (vlw N s kd r2 r3 c (r2 k))
        refine lf_iload d_W_valuesBy_8 rfl ?_
        refine lf_aload_n d_W_valuesBy_10 rfl rfl rfl ?_
        refine gi_len d_W_valuesBy_11 (show spt sh q (.inl (.int, N, 0, fun _ => none)) 100 = _ from (spt_o (by omega)).trans hs0) ?_
        refine gi_icmp_ge d_W_valuesBy_12 (tgt := 203) (by decide) (by omega) (fun hb12 => False.elim (by omega)) (fun hb12 => ?_)
        refine lf_aload_n d_W_valuesBy_15 rfl rfl rfl ?_
        refine lf_iload d_W_valuesBy_16 rfl ?_
        refine gi_aald (kd := 0) d_W_valuesBy_18 rfl ((spt_o (by omega)).trans hs0) (by omega) (hf k (by omega)) ?_
        refine lf_astore d_W_valuesBy_19 (by decide +kernel) rfl (L2 := [(5, _), (4, _), (3, _), (0, _), (1, _), (2, _)]) rfl ?_
        refine lf_aload d_W_valuesBy_21 rfl rfl ?_
        refine lf_iconst d_W_valuesBy_23 (v := Int32.ofInt ((0 : Nat) : Int)) rfl ?_
        refine gi_ialoadN d_W_valuesBy_24 (show spt sh q (.inl (.int, N, 0, fun _ => none)) (101 + k) = _ from (spt_o (by omega)).trans (hr k (by omega))) (by omega) ?_
        refine gi_top (g0.trans hq9) ?_
        refine lf_bipush d_W_valuesBy_25 (v := Int32.ofInt ((105 : Nat) : Int)) (by decide +kernel) ?_
        refine gi_icmp_eq d_W_valuesBy_27 (tgt := 39) (by decide) (by omega) (fun hb27 => False.elim (by omega)) (fun hb27 => ?_)
        refine lf_aload d_W_valuesBy_30 rfl rfl ?_
        refine lf_iconst d_W_valuesBy_32 (v := Int32.ofInt ((0 : Nat) : Int)) rfl ?_
        refine gi_ialoadN d_W_valuesBy_33 (show spt sh q (.inl (.int, N, 0, fun _ => none)) (101 + k) = _ from (spt_o (by omega)).trans (hr k (by omega))) (by omega) ?_
        refine gi_top (g0.trans hq9) ?_
        refine lf_bipush d_W_valuesBy_34 (v := Int32.ofInt ((99 : Nat) : Int)) (by decide +kernel) ?_
        refine gi_icmp_ne d_W_valuesBy_36 (tgt := 48) (by decide) (by omega) (fun hb36 => ?_) (fun hb36 => False.elim (by omega))
        refine lf_aload_n d_W_valuesBy_48 rfl rfl rfl ?_
        refine lf_aload d_W_valuesBy_49 rfl rfl ?_
        refine lf_iconst d_W_valuesBy_51 (v := Int32.ofInt ((2 : Nat) : Int)) rfl ?_
        refine gi_ialoadN d_W_valuesBy_52 (show spt sh q (.inl (.int, N, 0, fun _ => none)) (101 + k) = _ from (spt_o (by omega)).trans (hr k (by omega))) (by omega) ?_
        refine gi_top g2 ?_
        refine gi_ialoadN d_W_valuesBy_53 (show spt sh q (.inl (.int, N, 0, fun _ => none)) q = _ from spt_s) (by omega) ?_
        refine gi_top (hb.2 (r2 k) (by omega)) ?_
        refine lf_istore d_W_valuesBy_54 (by decide +kernel) (L2 := [(6, _), (5, _), (4, _), (3, _), (0, _), (1, _), (2, _)]) rfl ?_
        refine lf_aload d_W_valuesBy_56 rfl rfl ?_
        refine lf_iconst d_W_valuesBy_58 (v := Int32.ofInt ((0 : Nat) : Int)) rfl ?_
        refine gi_ialoadN d_W_valuesBy_59 (show spt sh q (.inl (.int, N, 0, fun _ => none)) (101 + k) = _ from (spt_o (by omega)).trans (hr k (by omega))) (by omega) ?_
        refine gi_top (g0.trans hq9) ?_
        refine lf_bipush d_W_valuesBy_60 (v := Int32.ofInt ((105 : Nat) : Int)) (by decide +kernel) ?_
        refine gi_icmp_eq d_W_valuesBy_62 (tgt := 74) (by decide) (by omega) (fun hb62 => False.elim (by omega)) (fun hb62 => ?_)
        refine lf_aload d_W_valuesBy_65 rfl rfl ?_
        refine lf_iconst d_W_valuesBy_67 (v := Int32.ofInt ((0 : Nat) : Int)) rfl ?_
        refine gi_ialoadN d_W_valuesBy_68 (show spt sh q (.inl (.int, N, 0, fun _ => none)) (101 + k) = _ from (spt_o (by omega)).trans (hr k (by omega))) (by omega) ?_
        refine gi_top (g0.trans hq9) ?_
        refine lf_bipush d_W_valuesBy_69 (v := Int32.ofInt ((99 : Nat) : Int)) (by decide +kernel) ?_
        refine gi_icmp_ne d_W_valuesBy_71 (tgt := 78) (by decide) (by omega) (fun hb71 => ?_) (fun hb71 => False.elim (by omega))
        refine lf_aload_n d_W_valuesBy_78 rfl rfl rfl ?_
        refine lf_aload d_W_valuesBy_79 rfl rfl ?_
        refine lf_iconst d_W_valuesBy_81 (v := Int32.ofInt ((3 : Nat) : Int)) rfl ?_
        refine gi_ialoadN d_W_valuesBy_82 (show spt sh q (.inl (.int, N, 0, fun _ => none)) (101 + k) = _ from (spt_o (by omega)).trans (hr k (by omega))) (by omega) ?_
        refine gi_top g3 ?_
        refine gi_ialoadN d_W_valuesBy_83 (show spt sh q (.inl (.int, N, 0, fun _ => none)) q = _ from spt_s) (by omega) ?_
        refine gi_top (hb.2 (r3 k) (by omega)) ?_
        refine lf_istore d_W_valuesBy_84 (by decide +kernel) (L2 := [(7, _), (6, _), (5, _), (4, _), (3, _), (0, _), (1, _), (2, _)]) rfl ?_
        refine lf_aload_n d_W_valuesBy_86 rfl rfl rfl ?_
        refine lf_iload d_W_valuesBy_87 rfl ?_
        refine lf_aload d_W_valuesBy_89 rfl rfl ?_
        refine lf_iconst d_W_valuesBy_91 (v := Int32.ofInt ((0 : Nat) : Int)) rfl ?_
        refine gi_ialoadN d_W_valuesBy_92 (show spt sh q (.inl (.int, N, 0, fun _ => none)) (101 + k) = _ from (spt_o (by omega)).trans (hr k (by omega))) (by omega) ?_
        refine gi_top (g0.trans hq9) ?_
        refine lf_bipush d_W_valuesBy_93 (v := Int32.ofInt ((97 : Nat) : Int)) (by decide +kernel) ?_
        refine gi_icmp_ne d_W_valuesBy_95 (tgt := 106) (by decide) (by omega) (fun hb95 => ?_) (fun hb95 => False.elim (by omega))
        refine lf_aload d_W_valuesBy_106 rfl rfl ?_
        refine lf_iconst d_W_valuesBy_108 (v := Int32.ofInt ((0 : Nat) : Int)) rfl ?_
        refine gi_ialoadN d_W_valuesBy_109 (show spt sh q (.inl (.int, N, 0, fun _ => none)) (101 + k) = _ from (spt_o (by omega)).trans (hr k (by omega))) (by omega) ?_
        refine gi_top (g0.trans hq9) ?_
        refine lf_bipush d_W_valuesBy_110 (v := Int32.ofInt ((111 : Nat) : Int)) (by decide +kernel) ?_
        refine gi_icmp_ne d_W_valuesBy_112 (tgt := 123) (by decide) (by omega) (fun hb112 => ?_) (fun hb112 => False.elim (by omega))
        refine lf_aload d_W_valuesBy_123 rfl rfl ?_
        refine lf_iconst d_W_valuesBy_125 (v := Int32.ofInt ((0 : Nat) : Int)) rfl ?_
        refine gi_ialoadN d_W_valuesBy_126 (show spt sh q (.inl (.int, N, 0, fun _ => none)) (101 + k) = _ from (spt_o (by omega)).trans (hr k (by omega))) (by omega) ?_
        refine gi_top (g0.trans hq9) ?_
        refine lf_bipush d_W_valuesBy_127 (v := Int32.ofInt ((120 : Nat) : Int)) (by decide +kernel) ?_
        refine gi_icmp_ne d_W_valuesBy_129 (tgt := 140) (by decide) (by omega) (fun hb129 => ?_) (fun hb129 => False.elim (by omega))
        refine lf_aload d_W_valuesBy_140 rfl rfl ?_
        refine lf_iconst d_W_valuesBy_142 (v := Int32.ofInt ((0 : Nat) : Int)) rfl ?_
        refine gi_ialoadN d_W_valuesBy_143 (show spt sh q (.inl (.int, N, 0, fun _ => none)) (101 + k) = _ from (spt_o (by omega)).trans (hr k (by omega))) (by omega) ?_
        refine gi_top (g0.trans hq9) ?_
        refine lf_bipush d_W_valuesBy_144 (v := Int32.ofInt ((110 : Nat) : Int)) (by decide +kernel) ?_
        refine gi_icmp_ne d_W_valuesBy_146 (tgt := 159) (by decide) (by omega) (fun hb146 => ?_) (fun hb146 => False.elim (by omega))
        refine lf_aload d_W_valuesBy_159 rfl rfl ?_
        refine lf_iconst d_W_valuesBy_161 (v := Int32.ofInt ((0 : Nat) : Int)) rfl ?_
        refine gi_ialoadN d_W_valuesBy_162 (show spt sh q (.inl (.int, N, 0, fun _ => none)) (101 + k) = _ from (spt_o (by omega)).trans (hr k (by omega))) (by omega) ?_
        refine gi_top (g0.trans hq9) ?_
        refine lf_bipush d_W_valuesBy_163 (v := Int32.ofInt ((114 : Nat) : Int)) (by decide +kernel) ?_
        refine gi_icmp_ne d_W_valuesBy_165 (tgt := 178) (by decide) (by omega) (fun hb165 => ?_) (fun hb165 => False.elim (by omega))
        refine lf_aload d_W_valuesBy_178 rfl rfl ?_
        refine lf_iconst d_W_valuesBy_180 (v := Int32.ofInt ((0 : Nat) : Int)) rfl ?_
        refine gi_ialoadN d_W_valuesBy_181 (show spt sh q (.inl (.int, N, 0, fun _ => none)) (101 + k) = _ from (spt_o (by omega)).trans (hr k (by omega))) (by omega) ?_
        refine gi_top (g0.trans hq9) ?_
        refine lf_bipush d_W_valuesBy_182 (v := Int32.ofInt ((118 : Nat) : Int)) (by decide +kernel) ?_
        refine gi_icmp_ne d_W_valuesBy_184 (tgt := 194) (by decide) (by omega) (fun hb184 => ?_) (fun hb184 => False.elim (by omega))
        refine lf_iload d_W_valuesBy_194 rfl ?_
        refine gi_iastoreN d_W_valuesBy_196 (show spt sh q (.inl (.int, N, 0, fun _ => none)) q = _ from spt_s) (by omega) ?_
        refine gi_iincN d_W_valuesBy_197 rfl (by decide +kernel) (L2 := [(4, _), (7, _), (6, _), (5, _), (3, _), (0, _), (1, _), (2, _)]) rfl ?_
        refine lf_goto d_W_valuesBy_200 (tgt := 8) (by decide) ?_
        refine lf_sub [0, 4, 5, 6, 7] rfl ?_
        exact nxt9 _ (by rw [vlw_g (N := N) (s := s) (kd := kd) (r2 := r2) (r3 := r3) (c := c) (j := k) (by omega) (by omega) g9.1 g9.2, hq9]; exact gB_98 _ _)
theorem w_valuesBy (hx : HX X L9 xs) {N ni s : Nat} {kd : Nat → Int} {ow r2 r3 : Nat → Nat} (hrw : RW sh I N kd ow r2 r3) (hrk : RKq N ni s kd ow r2 r3) {q c m : Nat} (hq : 124 ≤ q) (hqn : sh q = none) (hc : c < 1000) : EVa TT cl6 X mi_W_valuesBy 0 1 23 [.ref 100, .int (Int32.ofInt ((m : Nat) : Int)), .int (Int32.ofInt ((c : Nat) : Int))] sh I J (fun v s1 I1 J1 => v = some (.ref q) ∧ s1 = spt sh q (.inl (.int, N, 0, fun _ => none)) ∧ J1 = jzr J q ∧ (∀ a, ¬ a = q → I1 a = I a) ∧ (∀ j, j < N → I1 q j = ((bn (vlw N s kd r2 r3 c j) : Nat) : Int))) := by
  obtain ⟨⟨f, hs0, hf⟩, hr, hR⟩ := id hrw
  have hN23 := hrk.2.2.2.2.2.2.1
  refine gw_enter (hx_ok hx) (by decide +kernel) (Nat.le_of_ble_eq_true rfl) (L := [(0, _), (1, _), (2, _)]) rfl ?_
  refine lf_aload_n d_W_valuesBy_0 rfl rfl rfl ?_
  refine gi_len d_W_valuesBy_1 hs0 ?_
  refine gi_newB_int d_W_valuesBy_2 tA_int (m := N) (B := 23) (q := q) (by omega) (by decide) hqn ?_
  refine lf_astore_n d_W_valuesBy_4 rfl (by decide +kernel) rfl (L2 := [(3, _), (0, _), (1, _), (2, _)]) rfl ?_
  refine lf_iconst d_W_valuesBy_5 (v := Int32.ofInt ((0 : Nat) : Int)) rfl ?_
  refine lf_istore d_W_valuesBy_6 (by decide +kernel) (L2 := [(4, _), (3, _), (0, _), (1, _), (2, _)]) rfl ?_
  refine w_vb_l hrw hrk hq hc (fun I1 hb => ?_) N 0 _ (by omega) ⟨fun a ha => izr_o ha, fun j hj => absurd hj (Nat.not_lt_zero j)⟩
  refine lf_aload_n d_W_valuesBy_203 rfl rfl rfl ?_
  refine gw_aret d_W_valuesBy_204 rfl (Or.inr ⟨_, rfl⟩) ?_
  exact ⟨rfl, rfl, rfl, hb.1, hb.2⟩
end LW3
