section LW1
variable {X : XT} {L9 : Nat} {xs : Nat → Int32} {sh : sM} {I : mI} {J : mJ}

variable {D : mF} {P : Option Value → mF → Prop} {PX : String → mF → Prop} {kc ks : Nat}

theorem and_k (z : Int32) : ∃ k : Nat, k < 2147483648 ∧ z &&& Int32.ofInt ((2147483647 : Nat) : Int) = Int32.ofInt ((k : Nat) : Int) := by
  refine ⟨(z &&& Int32.ofInt ((2147483647 : Nat) : Int)).toBitVec.toNat, ?_, ?_⟩
  · rw [Int32.toBitVec_and, BitVec.toNat_and]
    exact Nat.lt_of_le_of_lt Nat.and_le_right (by decide)
  · apply Int32.toBitVec_inj.mp
    apply BitVec.eq_of_toNat_eq
    show _ = (BitVec.ofInt 32 (((z &&& Int32.ofInt ((2147483647 : Nat) : Int)).toBitVec.toNat : Nat) : Int)).toNat
    rw [BitVec.ofInt_natCast, BitVec.toNat_ofNat, Nat.mod_eq_of_lt (BitVec.isLt _)]
theorem w_hash (hx : HX X L9 xs) {i : Nat} (hi : i < 1000) : EVm TT cl6 X mi_W_hash 0 [.retAddr 1, .int (Int32.ofInt ((i : Nat) : Int))] sh I J (fun v I1 J1 => ∃ z : Int32, v = some (.int z) ∧ I1 = I ∧ J1 = J) := by
  have hL9 := hx_n hx
  refine gw_enter (hx_ok hx) (by decide +kernel) (Nat.le_of_ble_eq_true rfl) (L := [(0, _), (1, _)]) rfl ?_
  refine gi_pushi s_W_hash_0 ?_
  refine gi_top (b := ((69069 : Nat) : Int)) rfl ?_
  refine lf_iload_n d_W_hash_2 rfl rfl ?_
  refine lf_aload_n d_W_hash_3 rfl rfl rfl ?_
  refine gi_xlen d_W_hash_4 (by decide) (hx_i hx) ?_
  refine gi_icmp_ge d_W_hash_5 (tgt := 14) (by decide) (by omega) (fun hb5 => ?_) (fun hb5 => ?_)
  · refine lf_iconst d_W_hash_14 (v := Int32.ofInt ((0 : Nat) : Int)) rfl ?_
    refine lf_sipush d_W_hash_15 (v := Int32.ofInt ((1009 : Nat) : Int)) (by decide +kernel) ?_
    refine lf_iload_n d_W_hash_18 rfl rfl ?_
    refine gi_imulN (a := 1009) (b := i) d_W_hash_19 ?_
    refine gi_iaddN (a := 0) (b := (1009 * i)) d_W_hash_20 ?_
    refine gi_imulN (a := 69069) (b := (0 + (1009 * i))) d_W_hash_21 ?_
    refine lf_sipush d_W_hash_22 (v := Int32.ofInt ((12345 : Nat) : Int)) (by decide +kernel) ?_
    refine gi_iaddN (a := (69069 * (0 + (1009 * i)))) (b := 12345) d_W_hash_25 ?_
    refine lf_istore_n d_W_hash_26 rfl (by decide +kernel) (L2 := [(2, _), (0, _), (1, _)]) rfl ?_
    refine lf_iload_n d_W_hash_27 rfl rfl ?_
    refine lf_iload_n d_W_hash_28 rfl rfl ?_
    refine lf_bipush d_W_hash_29 (v := Int32.ofInt ((13 : Nat) : Int)) (by decide +kernel) ?_
    refine lf_iushr d_W_hash_31 ?_
    refine lf_ixor d_W_hash_32 ?_
    refine gi_pushi s_W_hash_33 ?_
    refine gi_top (b := ((1103515245 : Nat) : Int)) rfl ?_
    refine lf_imul d_W_hash_35 ?_
    refine lf_istore_n d_W_hash_36 rfl (by decide +kernel) (L2 := [(2, _), (0, _), (1, _)]) rfl ?_
    refine lf_iload_n d_W_hash_37 rfl rfl ?_
    refine lf_iload_n d_W_hash_38 rfl rfl ?_
    refine lf_bipush d_W_hash_39 (v := Int32.ofInt ((16 : Nat) : Int)) (by decide +kernel) ?_
    refine lf_iushr d_W_hash_41 ?_
    refine lf_ixor d_W_hash_42 ?_
    exact lf_ireturn d_W_hash_43 rfl rfl ⟨_, _, _, rfl, rfl, _, rfl, rfl, rfl⟩
  · refine lf_aload_n d_W_hash_8 rfl rfl rfl ?_
    refine lf_iload_n d_W_hash_9 rfl rfl ?_
    refine gi_xload d_W_hash_10 (by decide) (hx_i hx) (by omega) ?_
    refine lf_goto d_W_hash_11 (tgt := 15) (by decide) ?_
    refine lf_sipush d_W_hash_15 (v := Int32.ofInt ((1009 : Nat) : Int)) (by decide +kernel) ?_
    refine lf_iload_n d_W_hash_18 rfl rfl ?_
    refine gi_imulN (a := 1009) (b := i) d_W_hash_19 ?_
    refine lf_iadd d_W_hash_20 ?_
    refine lf_imul d_W_hash_21 ?_
    refine lf_sipush d_W_hash_22 (v := Int32.ofInt ((12345 : Nat) : Int)) (by decide +kernel) ?_
    refine lf_iadd d_W_hash_25 ?_
    refine lf_istore_n d_W_hash_26 rfl (by decide +kernel) (L2 := [(2, _), (0, _), (1, _)]) rfl ?_
    refine lf_iload_n d_W_hash_27 rfl rfl ?_
    refine lf_iload_n d_W_hash_28 rfl rfl ?_
    refine lf_bipush d_W_hash_29 (v := Int32.ofInt ((13 : Nat) : Int)) (by decide +kernel) ?_
    refine lf_iushr d_W_hash_31 ?_
    refine lf_ixor d_W_hash_32 ?_
    refine gi_pushi s_W_hash_33 ?_
    refine gi_top (b := ((1103515245 : Nat) : Int)) rfl ?_
    refine lf_imul d_W_hash_35 ?_
    refine lf_istore_n d_W_hash_36 rfl (by decide +kernel) (L2 := [(2, _), (0, _), (1, _)]) rfl ?_
    refine lf_iload_n d_W_hash_37 rfl rfl ?_
    refine lf_iload_n d_W_hash_38 rfl rfl ?_
    refine lf_bipush d_W_hash_39 (v := Int32.ofInt ((16 : Nat) : Int)) (by decide +kernel) ?_
    refine lf_iushr d_W_hash_41 ?_
    refine lf_ixor d_W_hash_42 ?_
    exact lf_ireturn d_W_hash_43 rfl rfl ⟨_, _, _, rfl, rfl, _, rfl, rfl, rfl⟩
theorem w_in (hx : HX X L9 xs) {i n : Nat} (hi : i < 1000) (hn : 0 < n) (hn2 : n ≤ 100000) : EVi TT cl6 X mi_W_in 1 [.retAddr 1, .int (Int32.ofInt ((i : Nat) : Int)), .int (Int32.ofInt ((n : Nat) : Int))] sh I J (fun r I1 J1 => (∃ k : Nat, k < n ∧ r = (k : Int)) ∧ I1 = I ∧ J1 = J) := by
  refine gw_enter (hx_ok hx) (by decide +kernel) (Nat.le_of_ble_eq_true rfl) (L := [(0, _), (1, _), (2, _)]) rfl ?_
  refine lf_aload_n d_W_in_0 rfl rfl rfl ?_
  refine lf_iload_n d_W_in_1 rfl rfl ?_
  refine gw_callM s_W_in_2 (w_hash hx hi) (S := []) rfl rfl gcR_1 (by decide) (by decide +kernel) (Nat.le_of_ble_eq_true rfl) (fun v I J w2 => ?_)
  obtain ⟨z, rfl, rfl, rfl⟩ := w2
  refine gi_pushi s_W_in_5 ?_
  refine gi_top (b := ((2147483647 : Nat) : Int)) rfl ?_
  refine lf_iand d_W_in_7 ?_
  obtain ⟨k, hk, ek⟩ := and_k z
  refine gi_topX ek ?_
  refine lf_iload_n d_W_in_8 rfl rfl ?_
  refine gi_iremN (a := k) (b := n) d_W_in_9 (by omega) ?_
  refine gw_iret d_W_in_10 rfl ?_
  have hkn := Nat.mod_lt k hn
  exact ⟨rfl, _, rfl, ⟨_, hkn, rfl⟩, rfl, rfl⟩
/-- what is told of a gate by what is told of its pins; 2: nothing -/
def tldN (kd : Int) (a b : Nat) : Nat :=
  let both := if a = 0 ∨ b = 0 then 0 else if a = 1 ∧ b = 1 then 1 else 2
  let any := if a = 1 ∨ b = 1 then 1 else if a = 0 ∧ b = 0 then 0 else 2
  let out := if kd = 97 ∨ kd = 110 then both else if kd = 111 ∨ kd = 114 then any else if kd = 120 then (if a = 2 ∨ b = 2 then 2 else a ^^^ b) else a
  if out = 2 then 2 else if kd = 110 ∨ kd = 114 ∨ kd = 118 then 1 - out else out
theorem tldN_lt {kd : Int} (h : KDq kd) {a b : Nat} (ha : a ≤ 2) (hb : b ≤ 2) : tldN kd a b ≤ 2 := by
  have : (a = 0 ∨ a = 1 ∨ a = 2) ∧ (b = 0 ∨ b = 1 ∨ b = 2) := by omega
  obtain ⟨ha, hb⟩ := this
  rcases h with rfl | rfl | rfl | rfl | rfl | rfl | rfl <;> rcases ha with rfl | rfl | rfl <;> rcases hb with rfl | rfl | rfl <;> decide
theorem w_told97 (hx : HX X L9 xs) {a b : Nat} (ha : a ≤ 2) (hb : b ≤ 2) : EVp TT cl6 X mi_W_told 0 [.int (Int32.ofInt ((97 : Nat) : Int)), .int (Int32.ofInt ((a : Nat) : Int)), .int (Int32.ofInt ((b : Nat) : Int))] sh I J (.int (Int32.ofInt ((tldN 97 a b : Nat) : Int))) := by
  have h9 : (a = 0 ∨ a = 1 ∨ a = 2) ∧ (b = 0 ∨ b = 1 ∨ b = 2) := by omega
  obtain ⟨h1, h2⟩ := h9
  refine gw_enter (hx_ok hx) (by decide +kernel) (Nat.le_of_ble_eq_true rfl) (L := [(0, _), (1, _), (2, _)]) rfl ?_
  rcases h1 with rfl | rfl | rfl <;> rcases h2 with rfl | rfl | rfl
  · refine lf_iload_n d_W_told_0 rfl rfl ?_
    refine gi_if_eq d_W_told_1 (tgt := 8) (by decide) (by omega) (fun hb1 => ?_) (fun hb1 => False.elim (by exact absurd hb1 (by decide)))
    refine lf_iconst d_W_told_8 (v := Int32.ofInt ((0 : Nat) : Int)) rfl ?_
    refine lf_goto d_W_told_9 (tgt := 27) (by decide) ?_
    refine lf_istore_n d_W_told_27 rfl (by decide +kernel) (L2 := [(3, _), (0, _), (1, _), (2, _)]) rfl ?_
    refine lf_iload_n d_W_told_28 rfl rfl ?_
    refine lf_iconst d_W_told_29 (v := Int32.ofInt ((1 : Nat) : Int)) rfl ?_
    refine gi_icmp_eq d_W_told_30 (tgt := 38) (by decide) (by omega) (fun hb30 => False.elim (by exact absurd hb30 (by decide))) (fun hb30 => ?_)
    refine lf_iload_n d_W_told_33 rfl rfl ?_
    refine lf_iconst d_W_told_34 (v := Int32.ofInt ((1 : Nat) : Int)) rfl ?_
    refine gi_icmp_ne d_W_told_35 (tgt := 42) (by decide) (by omega) (fun hb35 => ?_) (fun hb35 => False.elim (by exact absurd hb35 (by decide)))
    refine lf_iload_n d_W_told_42 rfl rfl ?_
    refine gi_if_ne d_W_told_43 (tgt := 54) (by decide) (by omega) (fun hb43 => False.elim (by exact absurd hb43 (by decide))) (fun hb43 => ?_)
    refine lf_iload_n d_W_told_46 rfl rfl ?_
    refine gi_if_ne d_W_told_47 (tgt := 54) (by decide) (by omega) (fun hb47 => False.elim (by exact absurd hb47 (by decide))) (fun hb47 => ?_)
    refine lf_iconst d_W_told_50 (v := Int32.ofInt ((0 : Nat) : Int)) rfl ?_
    refine lf_goto d_W_told_51 (tgt := 55) (by decide) ?_
    refine lf_istore d_W_told_55 (by decide +kernel) (L2 := [(4, _), (3, _), (0, _), (1, _), (2, _)]) rfl ?_
    refine lf_iload_n d_W_told_57 rfl rfl ?_
    refine lf_bipush d_W_told_58 (v := Int32.ofInt ((97 : Nat) : Int)) (by decide +kernel) ?_
    refine gi_icmp_eq d_W_told_60 (tgt := 69) (by decide) (by omega) (fun hb60 => ?_) (fun hb60 => False.elim (by exact absurd hb60 (by decide)))
    refine lf_iload_n d_W_told_69 rfl rfl ?_
    refine lf_goto d_W_told_70 (tgt := 117) (by decide) ?_
    refine lf_istore d_W_told_117 (by decide +kernel) (L2 := [(5, _), (4, _), (3, _), (0, _), (1, _), (2, _)]) rfl ?_
    refine lf_iload d_W_told_119 rfl ?_
    refine lf_iconst d_W_told_121 (v := Int32.ofInt ((2 : Nat) : Int)) rfl ?_
    refine gi_icmp_eq d_W_told_122 (tgt := 143) (by decide) (by omega) (fun hb122 => False.elim (by exact absurd hb122 (by decide))) (fun hb122 => ?_)
    refine lf_iload_n d_W_told_125 rfl rfl ?_
    refine lf_bipush d_W_told_126 (v := Int32.ofInt ((110 : Nat) : Int)) (by decide +kernel) ?_
    refine gi_icmp_eq d_W_told_128 (tgt := 148) (by decide) (by omega) (fun hb128 => False.elim (by exact absurd hb128 (by decide))) (fun hb128 => ?_)
    refine lf_iload_n d_W_told_131 rfl rfl ?_
    refine lf_bipush d_W_told_132 (v := Int32.ofInt ((114 : Nat) : Int)) (by decide +kernel) ?_
    refine gi_icmp_eq d_W_told_134 (tgt := 148) (by decide) (by omega) (fun hb134 => False.elim (by exact absurd hb134 (by decide))) (fun hb134 => ?_)
    refine lf_iload_n d_W_told_137 rfl rfl ?_
    refine lf_bipush d_W_told_138 (v := Int32.ofInt ((118 : Nat) : Int)) (by decide +kernel) ?_
    refine gi_icmp_eq d_W_told_140 (tgt := 148) (by decide) (by omega) (fun hb140 => False.elim (by exact absurd hb140 (by decide))) (fun hb140 => ?_)
    refine lf_iload d_W_told_143 rfl ?_
    refine lf_goto d_W_told_145 (tgt := 152) (by decide) ?_
    refine gw_iret d_W_told_152 rfl ?_
    exact ⟨rfl, rfl, rfl, rfl⟩
  · refine lf_iload_n d_W_told_0 rfl rfl ?_
    refine gi_if_eq d_W_told_1 (tgt := 8) (by decide) (by omega) (fun hb1 => ?_) (fun hb1 => False.elim (by exact absurd hb1 (by decide)))
    refine lf_iconst d_W_told_8 (v := Int32.ofInt ((0 : Nat) : Int)) rfl ?_
    refine lf_goto d_W_told_9 (tgt := 27) (by decide) ?_
    refine lf_istore_n d_W_told_27 rfl (by decide +kernel) (L2 := [(3, _), (0, _), (1, _), (2, _)]) rfl ?_
    refine lf_iload_n d_W_told_28 rfl rfl ?_
    refine lf_iconst d_W_told_29 (v := Int32.ofInt ((1 : Nat) : Int)) rfl ?_
    refine gi_icmp_eq d_W_told_30 (tgt := 38) (by decide) (by omega) (fun hb30 => False.elim (by exact absurd hb30 (by decide))) (fun hb30 => ?_)
    refine lf_iload_n d_W_told_33 rfl rfl ?_
    refine lf_iconst d_W_told_34 (v := Int32.ofInt ((1 : Nat) : Int)) rfl ?_
    refine gi_icmp_ne d_W_told_35 (tgt := 42) (by decide) (by omega) (fun hb35 => False.elim (by exact absurd hb35 (by decide))) (fun hb35 => ?_)
    refine lf_iconst d_W_told_38 (v := Int32.ofInt ((1 : Nat) : Int)) rfl ?_
    refine lf_goto d_W_told_39 (tgt := 55) (by decide) ?_
    refine lf_istore d_W_told_55 (by decide +kernel) (L2 := [(4, _), (3, _), (0, _), (1, _), (2, _)]) rfl ?_
    refine lf_iload_n d_W_told_57 rfl rfl ?_
    refine lf_bipush d_W_told_58 (v := Int32.ofInt ((97 : Nat) : Int)) (by decide +kernel) ?_
    refine gi_icmp_eq d_W_told_60 (tgt := 69) (by decide) (by omega) (fun hb60 => ?_) (fun hb60 => False.elim (by exact absurd hb60 (by decide)))
    refine lf_iload_n d_W_told_69 rfl rfl ?_
    refine lf_goto d_W_told_70 (tgt := 117) (by decide) ?_
    refine lf_istore d_W_told_117 (by decide +kernel) (L2 := [(5, _), (4, _), (3, _), (0, _), (1, _), (2, _)]) rfl ?_
    refine lf_iload d_W_told_119 rfl ?_
    refine lf_iconst d_W_told_121 (v := Int32.ofInt ((2 : Nat) : Int)) rfl ?_
    refine gi_icmp_eq d_W_told_122 (tgt := 143) (by decide) (by omega) (fun hb122 => False.elim (by exact absurd hb122 (by decide))) (fun hb122 => ?_)
    refine lf_iload_n d_W_told_125 rfl rfl ?_
    refine lf_bipush d_W_told_126 (v := Int32.ofInt ((110 : Nat) : Int)) (by decide +kernel) ?_
    refine gi_icmp_eq d_W_told_128 (tgt := 148) (by decide) (by omega) (fun hb128 => False.elim (by exact absurd hb128 (by decide))) (fun hb128 => ?_)
    refine lf_iload_n d_W_told_131 rfl rfl ?_
    refine lf_bipush d_W_told_132 (v := Int32.ofInt ((114 : Nat) : Int)) (by decide +kernel) ?_
    refine gi_icmp_eq d_W_told_134 (tgt := 148) (by decide) (by omega) (fun hb134 => False.elim (by exact absurd hb134 (by decide))) (fun hb134 => ?_)
    refine lf_iload_n d_W_told_137 rfl rfl ?_
    refine lf_bipush d_W_told_138 (v := Int32.ofInt ((118 : Nat) : Int)) (by decide +kernel) ?_
    refine gi_icmp_eq d_W_told_140 (tgt := 148) (by decide) (by omega) (fun hb140 => False.elim (by exact absurd hb140 (by decide))) (fun hb140 => ?_)
    refine lf_iload d_W_told_143 rfl ?_
    refine lf_goto d_W_told_145 (tgt := 152) (by decide) ?_
    refine gw_iret d_W_told_152 rfl ?_
    exact ⟨rfl, rfl, rfl, rfl⟩
  · refine lf_iload_n d_W_told_0 rfl rfl ?_
    refine gi_if_eq d_W_told_1 (tgt := 8) (by decide) (by omega) (fun hb1 => ?_) (fun hb1 => False.elim (by exact absurd hb1 (by decide)))
    refine lf_iconst d_W_told_8 (v := Int32.ofInt ((0 : Nat) : Int)) rfl ?_
    refine lf_goto d_W_told_9 (tgt := 27) (by decide) ?_
    refine lf_istore_n d_W_told_27 rfl (by decide +kernel) (L2 := [(3, _), (0, _), (1, _), (2, _)]) rfl ?_
    refine lf_iload_n d_W_told_28 rfl rfl ?_
    refine lf_iconst d_W_told_29 (v := Int32.ofInt ((1 : Nat) : Int)) rfl ?_
    refine gi_icmp_eq d_W_told_30 (tgt := 38) (by decide) (by omega) (fun hb30 => False.elim (by exact absurd hb30 (by decide))) (fun hb30 => ?_)
    refine lf_iload_n d_W_told_33 rfl rfl ?_
    refine lf_iconst d_W_told_34 (v := Int32.ofInt ((1 : Nat) : Int)) rfl ?_
    refine gi_icmp_ne d_W_told_35 (tgt := 42) (by decide) (by omega) (fun hb35 => ?_) (fun hb35 => False.elim (by exact absurd hb35 (by decide)))
    refine lf_iload_n d_W_told_42 rfl rfl ?_
    refine gi_if_ne d_W_told_43 (tgt := 54) (by decide) (by omega) (fun hb43 => False.elim (by exact absurd hb43 (by decide))) (fun hb43 => ?_)
    refine lf_iload_n d_W_told_46 rfl rfl ?_
    refine gi_if_ne d_W_told_47 (tgt := 54) (by decide) (by omega) (fun hb47 => ?_) (fun hb47 => False.elim (by exact absurd hb47 (by decide)))
    refine lf_iconst d_W_told_54 (v := Int32.ofInt ((2 : Nat) : Int)) rfl ?_
    refine lf_istore d_W_told_55 (by decide +kernel) (L2 := [(4, _), (3, _), (0, _), (1, _), (2, _)]) rfl ?_
    refine lf_iload_n d_W_told_57 rfl rfl ?_
    refine lf_bipush d_W_told_58 (v := Int32.ofInt ((97 : Nat) : Int)) (by decide +kernel) ?_
    refine gi_icmp_eq d_W_told_60 (tgt := 69) (by decide) (by omega) (fun hb60 => ?_) (fun hb60 => False.elim (by exact absurd hb60 (by decide)))
    refine lf_iload_n d_W_told_69 rfl rfl ?_
    refine lf_goto d_W_told_70 (tgt := 117) (by decide) ?_
    refine lf_istore d_W_told_117 (by decide +kernel) (L2 := [(5, _), (4, _), (3, _), (0, _), (1, _), (2, _)]) rfl ?_
    refine lf_iload d_W_told_119 rfl ?_
    refine lf_iconst d_W_told_121 (v := Int32.ofInt ((2 : Nat) : Int)) rfl ?_
    refine gi_icmp_eq d_W_told_122 (tgt := 143) (by decide) (by omega) (fun hb122 => False.elim (by exact absurd hb122 (by decide))) (fun hb122 => ?_)
    refine lf_iload_n d_W_told_125 rfl rfl ?_
    refine lf_bipush d_W_told_126 (v := Int32.ofInt ((110 : Nat) : Int)) (by decide +kernel) ?_
    refine gi_icmp_eq d_W_told_128 (tgt := 148) (by decide) (by omega) (fun hb128 => False.elim (by exact absurd hb128 (by decide))) (fun hb128 => ?_)
    refine lf_iload_n d_W_told_131 rfl rfl ?_
    refine lf_bipush d_W_told_132 (v := Int32.ofInt ((114 : Nat) : Int)) (by decide +kernel) ?_
    refine gi_icmp_eq d_W_told_134 (tgt := 148) (by decide) (by omega) (fun hb134 => False.elim (by exact absurd hb134 (by decide))) (fun hb134 => ?_)
    refine lf_iload_n d_W_told_137 rfl rfl ?_
    refine lf_bipush d_W_told_138 (v := Int32.ofInt ((118 : Nat) : Int)) (by decide +kernel) ?_
    refine gi_icmp_eq d_W_told_140 (tgt := 148) (by decide) (by omega) (fun hb140 => False.elim (by exact absurd hb140 (by decide))) (fun hb140 => ?_)
    refine lf_iload d_W_told_143 rfl ?_
    refine lf_goto d_W_told_145 (tgt := 152) (by decide) ?_
    refine gw_iret d_W_told_152 rfl ?_
    exact ⟨rfl, rfl, rfl, rfl⟩
  · refine lf_iload_n d_W_told_0 rfl rfl ?_
    refine gi_if_eq d_W_told_1 (tgt := 8) (by decide) (by omega) (fun hb1 => False.elim (by exact absurd hb1 (by decide))) (fun hb1 => ?_)
    refine lf_iload_n d_W_told_4 rfl rfl ?_
    refine gi_if_ne d_W_told_5 (tgt := 12) (by decide) (by omega) (fun hb5 => False.elim (by exact absurd hb5 (by decide))) (fun hb5 => ?_)
    refine lf_iconst d_W_told_8 (v := Int32.ofInt ((0 : Nat) : Int)) rfl ?_
    refine lf_goto d_W_told_9 (tgt := 27) (by decide) ?_
    refine lf_istore_n d_W_told_27 rfl (by decide +kernel) (L2 := [(3, _), (0, _), (1, _), (2, _)]) rfl ?_
    refine lf_iload_n d_W_told_28 rfl rfl ?_
    refine lf_iconst d_W_told_29 (v := Int32.ofInt ((1 : Nat) : Int)) rfl ?_
    refine gi_icmp_eq d_W_told_30 (tgt := 38) (by decide) (by omega) (fun hb30 => ?_) (fun hb30 => False.elim (by exact absurd hb30 (by decide)))
    refine lf_iconst d_W_told_38 (v := Int32.ofInt ((1 : Nat) : Int)) rfl ?_
    refine lf_goto d_W_told_39 (tgt := 55) (by decide) ?_
    refine lf_istore d_W_told_55 (by decide +kernel) (L2 := [(4, _), (3, _), (0, _), (1, _), (2, _)]) rfl ?_
    refine lf_iload_n d_W_told_57 rfl rfl ?_
    refine lf_bipush d_W_told_58 (v := Int32.ofInt ((97 : Nat) : Int)) (by decide +kernel) ?_
    refine gi_icmp_eq d_W_told_60 (tgt := 69) (by decide) (by omega) (fun hb60 => ?_) (fun hb60 => False.elim (by exact absurd hb60 (by decide)))
    refine lf_iload_n d_W_told_69 rfl rfl ?_
    refine lf_goto d_W_told_70 (tgt := 117) (by decide) ?_
    refine lf_istore d_W_told_117 (by decide +kernel) (L2 := [(5, _), (4, _), (3, _), (0, _), (1, _), (2, _)]) rfl ?_
    refine lf_iload d_W_told_119 rfl ?_
    refine lf_iconst d_W_told_121 (v := Int32.ofInt ((2 : Nat) : Int)) rfl ?_
    refine gi_icmp_eq d_W_told_122 (tgt := 143) (by decide) (by omega) (fun hb122 => False.elim (by exact absurd hb122 (by decide))) (fun hb122 => ?_)
    refine lf_iload_n d_W_told_125 rfl rfl ?_
    refine lf_bipush d_W_told_126 (v := Int32.ofInt ((110 : Nat) : Int)) (by decide +kernel) ?_
    refine gi_icmp_eq d_W_told_128 (tgt := 148) (by decide) (by omega) (fun hb128 => False.elim (by exact absurd hb128 (by decide))) (fun hb128 => ?_)
    refine lf_iload_n d_W_told_131 rfl rfl ?_
    refine lf_bipush d_W_told_132 (v := Int32.ofInt ((114 : Nat) : Int)) (by decide +kernel) ?_
    refine gi_icmp_eq d_W_told_134 (tgt := 148) (by decide) (by omega) (fun hb134 => False.elim (by exact absurd hb134 (by decide))) (fun hb134 => ?_)
    refine lf_iload_n d_W_told_137 rfl rfl ?_
    refine lf_bipush d_W_told_138 (v := Int32.ofInt ((118 : Nat) : Int)) (by decide +kernel) ?_
    refine gi_icmp_eq d_W_told_140 (tgt := 148) (by decide) (by omega) (fun hb140 => False.elim (by exact absurd hb140 (by decide))) (fun hb140 => ?_)
    refine lf_iload d_W_told_143 rfl ?_
    refine lf_goto d_W_told_145 (tgt := 152) (by decide) ?_
    refine gw_iret d_W_told_152 rfl ?_
    exact ⟨rfl, rfl, rfl, rfl⟩
  · refine lf_iload_n d_W_told_0 rfl rfl ?_
    refine gi_if_eq d_W_told_1 (tgt := 8) (by decide) (by omega) (fun hb1 => False.elim (by exact absurd hb1 (by decide))) (fun hb1 => ?_)
    refine lf_iload_n d_W_told_4 rfl rfl ?_
    refine gi_if_ne d_W_told_5 (tgt := 12) (by decide) (by omega) (fun hb5 => ?_) (fun hb5 => False.elim (by exact absurd hb5 (by decide)))
    refine lf_iload_n d_W_told_12 rfl rfl ?_
    refine lf_iconst d_W_told_13 (v := Int32.ofInt ((1 : Nat) : Int)) rfl ?_
    refine gi_icmp_ne d_W_told_14 (tgt := 26) (by decide) (by omega) (fun hb14 => False.elim (by exact absurd hb14 (by decide))) (fun hb14 => ?_)
    refine lf_iload_n d_W_told_17 rfl rfl ?_
    refine lf_iconst d_W_told_18 (v := Int32.ofInt ((1 : Nat) : Int)) rfl ?_
    refine gi_icmp_ne d_W_told_19 (tgt := 26) (by decide) (by omega) (fun hb19 => False.elim (by exact absurd hb19 (by decide))) (fun hb19 => ?_)
    refine lf_iconst d_W_told_22 (v := Int32.ofInt ((1 : Nat) : Int)) rfl ?_
    refine lf_goto d_W_told_23 (tgt := 27) (by decide) ?_
    refine lf_istore_n d_W_told_27 rfl (by decide +kernel) (L2 := [(3, _), (0, _), (1, _), (2, _)]) rfl ?_
    refine lf_iload_n d_W_told_28 rfl rfl ?_
    refine lf_iconst d_W_told_29 (v := Int32.ofInt ((1 : Nat) : Int)) rfl ?_
    refine gi_icmp_eq d_W_told_30 (tgt := 38) (by decide) (by omega) (fun hb30 => ?_) (fun hb30 => False.elim (by exact absurd hb30 (by decide)))
    refine lf_iconst d_W_told_38 (v := Int32.ofInt ((1 : Nat) : Int)) rfl ?_
    refine lf_goto d_W_told_39 (tgt := 55) (by decide) ?_
    refine lf_istore d_W_told_55 (by decide +kernel) (L2 := [(4, _), (3, _), (0, _), (1, _), (2, _)]) rfl ?_
    refine lf_iload_n d_W_told_57 rfl rfl ?_
    refine lf_bipush d_W_told_58 (v := Int32.ofInt ((97 : Nat) : Int)) (by decide +kernel) ?_
    refine gi_icmp_eq d_W_told_60 (tgt := 69) (by decide) (by omega) (fun hb60 => ?_) (fun hb60 => False.elim (by exact absurd hb60 (by decide)))
    refine lf_iload_n d_W_told_69 rfl rfl ?_
    refine lf_goto d_W_told_70 (tgt := 117) (by decide) ?_
    refine lf_istore d_W_told_117 (by decide +kernel) (L2 := [(5, _), (4, _), (3, _), (0, _), (1, _), (2, _)]) rfl ?_
    refine lf_iload d_W_told_119 rfl ?_
    refine lf_iconst d_W_told_121 (v := Int32.ofInt ((2 : Nat) : Int)) rfl ?_
    refine gi_icmp_eq d_W_told_122 (tgt := 143) (by decide) (by omega) (fun hb122 => False.elim (by exact absurd hb122 (by decide))) (fun hb122 => ?_)
    refine lf_iload_n d_W_told_125 rfl rfl ?_
    refine lf_bipush d_W_told_126 (v := Int32.ofInt ((110 : Nat) : Int)) (by decide +kernel) ?_
    refine gi_icmp_eq d_W_told_128 (tgt := 148) (by decide) (by omega) (fun hb128 => False.elim (by exact absurd hb128 (by decide))) (fun hb128 => ?_)
    refine lf_iload_n d_W_told_131 rfl rfl ?_
    refine lf_bipush d_W_told_132 (v := Int32.ofInt ((114 : Nat) : Int)) (by decide +kernel) ?_
    refine gi_icmp_eq d_W_told_134 (tgt := 148) (by decide) (by omega) (fun hb134 => False.elim (by exact absurd hb134 (by decide))) (fun hb134 => ?_)
    refine lf_iload_n d_W_told_137 rfl rfl ?_
    refine lf_bipush d_W_told_138 (v := Int32.ofInt ((118 : Nat) : Int)) (by decide +kernel) ?_
    refine gi_icmp_eq d_W_told_140 (tgt := 148) (by decide) (by omega) (fun hb140 => False.elim (by exact absurd hb140 (by decide))) (fun hb140 => ?_)
    refine lf_iload d_W_told_143 rfl ?_
    refine lf_goto d_W_told_145 (tgt := 152) (by decide) ?_
    refine gw_iret d_W_told_152 rfl ?_
    exact ⟨rfl, rfl, rfl, rfl⟩
  · refine lf_iload_n d_W_told_0 rfl rfl ?_
    refine gi_if_eq d_W_told_1 (tgt := 8) (by decide) (by omega) (fun hb1 => False.elim (by exact absurd hb1 (by decide))) (fun hb1 => ?_)
    refine lf_iload_n d_W_told_4 rfl rfl ?_
    refine gi_if_ne d_W_told_5 (tgt := 12) (by decide) (by omega) (fun hb5 => ?_) (fun hb5 => False.elim (by exact absurd hb5 (by decide)))
    refine lf_iload_n d_W_told_12 rfl rfl ?_
    refine lf_iconst d_W_told_13 (v := Int32.ofInt ((1 : Nat) : Int)) rfl ?_
    refine gi_icmp_ne d_W_told_14 (tgt := 26) (by decide) (by omega) (fun hb14 => False.elim (by exact absurd hb14 (by decide))) (fun hb14 => ?_)
    refine lf_iload_n d_W_told_17 rfl rfl ?_
    refine lf_iconst d_W_told_18 (v := Int32.ofInt ((1 : Nat) : Int)) rfl ?_
    refine gi_icmp_ne d_W_told_19 (tgt := 26) (by decide) (by omega) (fun hb19 => ?_) (fun hb19 => False.elim (by exact absurd hb19 (by decide)))
    refine lf_iconst d_W_told_26 (v := Int32.ofInt ((2 : Nat) : Int)) rfl ?_
    refine lf_istore_n d_W_told_27 rfl (by decide +kernel) (L2 := [(3, _), (0, _), (1, _), (2, _)]) rfl ?_
    refine lf_iload_n d_W_told_28 rfl rfl ?_
    refine lf_iconst d_W_told_29 (v := Int32.ofInt ((1 : Nat) : Int)) rfl ?_
    refine gi_icmp_eq d_W_told_30 (tgt := 38) (by decide) (by omega) (fun hb30 => ?_) (fun hb30 => False.elim (by exact absurd hb30 (by decide)))
    refine lf_iconst d_W_told_38 (v := Int32.ofInt ((1 : Nat) : Int)) rfl ?_
    refine lf_goto d_W_told_39 (tgt := 55) (by decide) ?_
    refine lf_istore d_W_told_55 (by decide +kernel) (L2 := [(4, _), (3, _), (0, _), (1, _), (2, _)]) rfl ?_
    refine lf_iload_n d_W_told_57 rfl rfl ?_
    refine lf_bipush d_W_told_58 (v := Int32.ofInt ((97 : Nat) : Int)) (by decide +kernel) ?_
    refine gi_icmp_eq d_W_told_60 (tgt := 69) (by decide) (by omega) (fun hb60 => ?_) (fun hb60 => False.elim (by exact absurd hb60 (by decide)))
    refine lf_iload_n d_W_told_69 rfl rfl ?_
    refine lf_goto d_W_told_70 (tgt := 117) (by decide) ?_
    refine lf_istore d_W_told_117 (by decide +kernel) (L2 := [(5, _), (4, _), (3, _), (0, _), (1, _), (2, _)]) rfl ?_
    refine lf_iload d_W_told_119 rfl ?_
    refine lf_iconst d_W_told_121 (v := Int32.ofInt ((2 : Nat) : Int)) rfl ?_
    refine gi_icmp_eq d_W_told_122 (tgt := 143) (by decide) (by omega) (fun hb122 => ?_) (fun hb122 => False.elim (by exact absurd hb122 (by decide)))
    refine lf_iload d_W_told_143 rfl ?_
    refine lf_goto d_W_told_145 (tgt := 152) (by decide) ?_
    refine gw_iret d_W_told_152 rfl ?_
    exact ⟨rfl, rfl, rfl, rfl⟩
  · refine lf_iload_n d_W_told_0 rfl rfl ?_
    refine gi_if_eq d_W_told_1 (tgt := 8) (by decide) (by omega) (fun hb1 => False.elim (by exact absurd hb1 (by decide))) (fun hb1 => ?_)
    refine lf_iload_n d_W_told_4 rfl rfl ?_
    refine gi_if_ne d_W_told_5 (tgt := 12) (by decide) (by omega) (fun hb5 => False.elim (by exact absurd hb5 (by decide))) (fun hb5 => ?_)
    refine lf_iconst d_W_told_8 (v := Int32.ofInt ((0 : Nat) : Int)) rfl ?_
    refine lf_goto d_W_told_9 (tgt := 27) (by decide) ?_
    refine lf_istore_n d_W_told_27 rfl (by decide +kernel) (L2 := [(3, _), (0, _), (1, _), (2, _)]) rfl ?_
    refine lf_iload_n d_W_told_28 rfl rfl ?_
    refine lf_iconst d_W_told_29 (v := Int32.ofInt ((1 : Nat) : Int)) rfl ?_
    refine gi_icmp_eq d_W_told_30 (tgt := 38) (by decide) (by omega) (fun hb30 => False.elim (by exact absurd hb30 (by decide))) (fun hb30 => ?_)
    refine lf_iload_n d_W_told_33 rfl rfl ?_
    refine lf_iconst d_W_told_34 (v := Int32.ofInt ((1 : Nat) : Int)) rfl ?_
    refine gi_icmp_ne d_W_told_35 (tgt := 42) (by decide) (by omega) (fun hb35 => ?_) (fun hb35 => False.elim (by exact absurd hb35 (by decide)))
    refine lf_iload_n d_W_told_42 rfl rfl ?_
    refine gi_if_ne d_W_told_43 (tgt := 54) (by decide) (by omega) (fun hb43 => ?_) (fun hb43 => False.elim (by exact absurd hb43 (by decide)))
    refine lf_iconst d_W_told_54 (v := Int32.ofInt ((2 : Nat) : Int)) rfl ?_
    refine lf_istore d_W_told_55 (by decide +kernel) (L2 := [(4, _), (3, _), (0, _), (1, _), (2, _)]) rfl ?_
    refine lf_iload_n d_W_told_57 rfl rfl ?_
    refine lf_bipush d_W_told_58 (v := Int32.ofInt ((97 : Nat) : Int)) (by decide +kernel) ?_
    refine gi_icmp_eq d_W_told_60 (tgt := 69) (by decide) (by omega) (fun hb60 => ?_) (fun hb60 => False.elim (by exact absurd hb60 (by decide)))
    refine lf_iload_n d_W_told_69 rfl rfl ?_
    refine lf_goto d_W_told_70 (tgt := 117) (by decide) ?_
    refine lf_istore d_W_told_117 (by decide +kernel) (L2 := [(5, _), (4, _), (3, _), (0, _), (1, _), (2, _)]) rfl ?_
    refine lf_iload d_W_told_119 rfl ?_
    refine lf_iconst d_W_told_121 (v := Int32.ofInt ((2 : Nat) : Int)) rfl ?_
    refine gi_icmp_eq d_W_told_122 (tgt := 143) (by decide) (by omega) (fun hb122 => False.elim (by exact absurd hb122 (by decide))) (fun hb122 => ?_)
    refine lf_iload_n d_W_told_125 rfl rfl ?_
    refine lf_bipush d_W_told_126 (v := Int32.ofInt ((110 : Nat) : Int)) (by decide +kernel) ?_
    refine gi_icmp_eq d_W_told_128 (tgt := 148) (by decide) (by omega) (fun hb128 => False.elim (by exact absurd hb128 (by decide))) (fun hb128 => ?_)
    refine lf_iload_n d_W_told_131 rfl rfl ?_
    refine lf_bipush d_W_told_132 (v := Int32.ofInt ((114 : Nat) : Int)) (by decide +kernel) ?_
    refine gi_icmp_eq d_W_told_134 (tgt := 148) (by decide) (by omega) (fun hb134 => False.elim (by exact absurd hb134 (by decide))) (fun hb134 => ?_)
    refine lf_iload_n d_W_told_137 rfl rfl ?_
    refine lf_bipush d_W_told_138 (v := Int32.ofInt ((118 : Nat) : Int)) (by decide +kernel) ?_
    refine gi_icmp_eq d_W_told_140 (tgt := 148) (by decide) (by omega) (fun hb140 => False.elim (by exact absurd hb140 (by decide))) (fun hb140 => ?_)
    refine lf_iload d_W_told_143 rfl ?_
    refine lf_goto d_W_told_145 (tgt := 152) (by decide) ?_
    refine gw_iret d_W_told_152 rfl ?_
    exact ⟨rfl, rfl, rfl, rfl⟩
  · refine lf_iload_n d_W_told_0 rfl rfl ?_
    refine gi_if_eq d_W_told_1 (tgt := 8) (by decide) (by omega) (fun hb1 => False.elim (by exact absurd hb1 (by decide))) (fun hb1 => ?_)
    refine lf_iload_n d_W_told_4 rfl rfl ?_
    refine gi_if_ne d_W_told_5 (tgt := 12) (by decide) (by omega) (fun hb5 => ?_) (fun hb5 => False.elim (by exact absurd hb5 (by decide)))
    refine lf_iload_n d_W_told_12 rfl rfl ?_
    refine lf_iconst d_W_told_13 (v := Int32.ofInt ((1 : Nat) : Int)) rfl ?_
    refine gi_icmp_ne d_W_told_14 (tgt := 26) (by decide) (by omega) (fun hb14 => ?_) (fun hb14 => False.elim (by exact absurd hb14 (by decide)))
    refine lf_iconst d_W_told_26 (v := Int32.ofInt ((2 : Nat) : Int)) rfl ?_
    refine lf_istore_n d_W_told_27 rfl (by decide +kernel) (L2 := [(3, _), (0, _), (1, _), (2, _)]) rfl ?_
    refine lf_iload_n d_W_told_28 rfl rfl ?_
    refine lf_iconst d_W_told_29 (v := Int32.ofInt ((1 : Nat) : Int)) rfl ?_
    refine gi_icmp_eq d_W_told_30 (tgt := 38) (by decide) (by omega) (fun hb30 => False.elim (by exact absurd hb30 (by decide))) (fun hb30 => ?_)
    refine lf_iload_n d_W_told_33 rfl rfl ?_
    refine lf_iconst d_W_told_34 (v := Int32.ofInt ((1 : Nat) : Int)) rfl ?_
    refine gi_icmp_ne d_W_told_35 (tgt := 42) (by decide) (by omega) (fun hb35 => False.elim (by exact absurd hb35 (by decide))) (fun hb35 => ?_)
    refine lf_iconst d_W_told_38 (v := Int32.ofInt ((1 : Nat) : Int)) rfl ?_
    refine lf_goto d_W_told_39 (tgt := 55) (by decide) ?_
    refine lf_istore d_W_told_55 (by decide +kernel) (L2 := [(4, _), (3, _), (0, _), (1, _), (2, _)]) rfl ?_
    refine lf_iload_n d_W_told_57 rfl rfl ?_
    refine lf_bipush d_W_told_58 (v := Int32.ofInt ((97 : Nat) : Int)) (by decide +kernel) ?_
    refine gi_icmp_eq d_W_told_60 (tgt := 69) (by decide) (by omega) (fun hb60 => ?_) (fun hb60 => False.elim (by exact absurd hb60 (by decide)))
    refine lf_iload_n d_W_told_69 rfl rfl ?_
    refine lf_goto d_W_told_70 (tgt := 117) (by decide) ?_
    refine lf_istore d_W_told_117 (by decide +kernel) (L2 := [(5, _), (4, _), (3, _), (0, _), (1, _), (2, _)]) rfl ?_
    refine lf_iload d_W_told_119 rfl ?_
    refine lf_iconst d_W_told_121 (v := Int32.ofInt ((2 : Nat) : Int)) rfl ?_
    refine gi_icmp_eq d_W_told_122 (tgt := 143) (by decide) (by omega) (fun hb122 => ?_) (fun hb122 => False.elim (by exact absurd hb122 (by decide)))
    refine lf_iload d_W_told_143 rfl ?_
    refine lf_goto d_W_told_145 (tgt := 152) (by decide) ?_
    refine gw_iret d_W_told_152 rfl ?_
    exact ⟨rfl, rfl, rfl, rfl⟩
  · refine lf_iload_n d_W_told_0 rfl rfl ?_
    refine gi_if_eq d_W_told_1 (tgt := 8) (by decide) (by omega) (fun hb1 => False.elim (by exact absurd hb1 (by decide))) (fun hb1 => ?_)
    refine lf_iload_n d_W_told_4 rfl rfl ?_
    refine gi_if_ne d_W_told_5 (tgt := 12) (by decide) (by omega) (fun hb5 => ?_) (fun hb5 => False.elim (by exact absurd hb5 (by decide)))
    refine lf_iload_n d_W_told_12 rfl rfl ?_
    refine lf_iconst d_W_told_13 (v := Int32.ofInt ((1 : Nat) : Int)) rfl ?_
    refine gi_icmp_ne d_W_told_14 (tgt := 26) (by decide) (by omega) (fun hb14 => ?_) (fun hb14 => False.elim (by exact absurd hb14 (by decide)))
    refine lf_iconst d_W_told_26 (v := Int32.ofInt ((2 : Nat) : Int)) rfl ?_
    refine lf_istore_n d_W_told_27 rfl (by decide +kernel) (L2 := [(3, _), (0, _), (1, _), (2, _)]) rfl ?_
    refine lf_iload_n d_W_told_28 rfl rfl ?_
    refine lf_iconst d_W_told_29 (v := Int32.ofInt ((1 : Nat) : Int)) rfl ?_
    refine gi_icmp_eq d_W_told_30 (tgt := 38) (by decide) (by omega) (fun hb30 => False.elim (by exact absurd hb30 (by decide))) (fun hb30 => ?_)
    refine lf_iload_n d_W_told_33 rfl rfl ?_
    refine lf_iconst d_W_told_34 (v := Int32.ofInt ((1 : Nat) : Int)) rfl ?_
    refine gi_icmp_ne d_W_told_35 (tgt := 42) (by decide) (by omega) (fun hb35 => ?_) (fun hb35 => False.elim (by exact absurd hb35 (by decide)))
    refine lf_iload_n d_W_told_42 rfl rfl ?_
    refine gi_if_ne d_W_told_43 (tgt := 54) (by decide) (by omega) (fun hb43 => ?_) (fun hb43 => False.elim (by exact absurd hb43 (by decide)))
    refine lf_iconst d_W_told_54 (v := Int32.ofInt ((2 : Nat) : Int)) rfl ?_
    refine lf_istore d_W_told_55 (by decide +kernel) (L2 := [(4, _), (3, _), (0, _), (1, _), (2, _)]) rfl ?_
    refine lf_iload_n d_W_told_57 rfl rfl ?_
    refine lf_bipush d_W_told_58 (v := Int32.ofInt ((97 : Nat) : Int)) (by decide +kernel) ?_
    refine gi_icmp_eq d_W_told_60 (tgt := 69) (by decide) (by omega) (fun hb60 => ?_) (fun hb60 => False.elim (by exact absurd hb60 (by decide)))
    refine lf_iload_n d_W_told_69 rfl rfl ?_
    refine lf_goto d_W_told_70 (tgt := 117) (by decide) ?_
    refine lf_istore d_W_told_117 (by decide +kernel) (L2 := [(5, _), (4, _), (3, _), (0, _), (1, _), (2, _)]) rfl ?_
    refine lf_iload d_W_told_119 rfl ?_
    refine lf_iconst d_W_told_121 (v := Int32.ofInt ((2 : Nat) : Int)) rfl ?_
    refine gi_icmp_eq d_W_told_122 (tgt := 143) (by decide) (by omega) (fun hb122 => ?_) (fun hb122 => False.elim (by exact absurd hb122 (by decide)))
    refine lf_iload d_W_told_143 rfl ?_
    refine lf_goto d_W_told_145 (tgt := 152) (by decide) ?_
    refine gw_iret d_W_told_152 rfl ?_
    exact ⟨rfl, rfl, rfl, rfl⟩
theorem w_told110 (hx : HX X L9 xs) {a b : Nat} (ha : a ≤ 2) (hb : b ≤ 2) : EVp TT cl6 X mi_W_told 0 [.int (Int32.ofInt ((110 : Nat) : Int)), .int (Int32.ofInt ((a : Nat) : Int)), .int (Int32.ofInt ((b : Nat) : Int))] sh I J (.int (Int32.ofInt ((tldN 110 a b : Nat) : Int))) := by
  have h9 : (a = 0 ∨ a = 1 ∨ a = 2) ∧ (b = 0 ∨ b = 1 ∨ b = 2) := by omega
  obtain ⟨h1, h2⟩ := h9
  refine gw_enter (hx_ok hx) (by decide +kernel) (Nat.le_of_ble_eq_true rfl) (L := [(0, _), (1, _), (2, _)]) rfl ?_
  rcases h1 with rfl | rfl | rfl <;> rcases h2 with rfl | rfl | rfl
  · refine lf_iload_n d_W_told_0 rfl rfl ?_
    refine gi_if_eq d_W_told_1 (tgt := 8) (by decide) (by omega) (fun hb1 => ?_) (fun hb1 => False.elim (by exact absurd hb1 (by decide)))
    refine lf_iconst d_W_told_8 (v := Int32.ofInt ((0 : Nat) : Int)) rfl ?_
    refine lf_goto d_W_told_9 (tgt := 27) (by decide) ?_
    refine lf_istore_n d_W_told_27 rfl (by decide +kernel) (L2 := [(3, _), (0, _), (1, _), (2, _)]) rfl ?_
    refine lf_iload_n d_W_told_28 rfl rfl ?_
    refine lf_iconst d_W_told_29 (v := Int32.ofInt ((1 : Nat) : Int)) rfl ?_
    refine gi_icmp_eq d_W_told_30 (tgt := 38) (by decide) (by omega) (fun hb30 => False.elim (by exact absurd hb30 (by decide))) (fun hb30 => ?_)
    refine lf_iload_n d_W_told_33 rfl rfl ?_
    refine lf_iconst d_W_told_34 (v := Int32.ofInt ((1 : Nat) : Int)) rfl ?_
    refine gi_icmp_ne d_W_told_35 (tgt := 42) (by decide) (by omega) (fun hb35 => ?_) (fun hb35 => False.elim (by exact absurd hb35 (by decide)))
    refine lf_iload_n d_W_told_42 rfl rfl ?_
    refine gi_if_ne d_W_told_43 (tgt := 54) (by decide) (by omega) (fun hb43 => False.elim (by exact absurd hb43 (by decide))) (fun hb43 => ?_)
    refine lf_iload_n d_W_told_46 rfl rfl ?_
    refine gi_if_ne d_W_told_47 (tgt := 54) (by decide) (by omega) (fun hb47 => False.elim (by exact absurd hb47 (by decide))) (fun hb47 => ?_)
    refine lf_iconst d_W_told_50 (v := Int32.ofInt ((0 : Nat) : Int)) rfl ?_
    refine lf_goto d_W_told_51 (tgt := 55) (by decide) ?_
    refine lf_istore d_W_told_55 (by decide +kernel) (L2 := [(4, _), (3, _), (0, _), (1, _), (2, _)]) rfl ?_
    refine lf_iload_n d_W_told_57 rfl rfl ?_
    refine lf_bipush d_W_told_58 (v := Int32.ofInt ((97 : Nat) : Int)) (by decide +kernel) ?_
    refine gi_icmp_eq d_W_told_60 (tgt := 69) (by decide) (by omega) (fun hb60 => False.elim (by exact absurd hb60 (by decide))) (fun hb60 => ?_)
    refine lf_iload_n d_W_told_63 rfl rfl ?_
    refine lf_bipush d_W_told_64 (v := Int32.ofInt ((110 : Nat) : Int)) (by decide +kernel) ?_
    refine gi_icmp_ne d_W_told_66 (tgt := 73) (by decide) (by omega) (fun hb66 => False.elim (by exact absurd hb66 (by decide))) (fun hb66 => ?_)
    refine lf_iload_n d_W_told_69 rfl rfl ?_
    refine lf_goto d_W_told_70 (tgt := 117) (by decide) ?_
    refine lf_istore d_W_told_117 (by decide +kernel) (L2 := [(5, _), (4, _), (3, _), (0, _), (1, _), (2, _)]) rfl ?_
    refine lf_iload d_W_told_119 rfl ?_
    refine lf_iconst d_W_told_121 (v := Int32.ofInt ((2 : Nat) : Int)) rfl ?_
    refine gi_icmp_eq d_W_told_122 (tgt := 143) (by decide) (by omega) (fun hb122 => False.elim (by exact absurd hb122 (by decide))) (fun hb122 => ?_)
    refine lf_iload_n d_W_told_125 rfl rfl ?_
    refine lf_bipush d_W_told_126 (v := Int32.ofInt ((110 : Nat) : Int)) (by decide +kernel) ?_
    refine gi_icmp_eq d_W_told_128 (tgt := 148) (by decide) (by omega) (fun hb128 => ?_) (fun hb128 => False.elim (by exact absurd hb128 (by decide)))
    refine lf_iconst d_W_told_148 (v := Int32.ofInt ((1 : Nat) : Int)) rfl ?_
    refine lf_iload d_W_told_149 rfl ?_
    refine gi_isubN (a := 1) (b := 0) d_W_told_151 (by omega) ?_
    refine gw_iret d_W_told_152 rfl ?_
    exact ⟨rfl, rfl, rfl, rfl⟩
  · refine lf_iload_n d_W_told_0 rfl rfl ?_
    refine gi_if_eq d_W_told_1 (tgt := 8) (by decide) (by omega) (fun hb1 => ?_) (fun hb1 => False.elim (by exact absurd hb1 (by decide)))
    refine lf_iconst d_W_told_8 (v := Int32.ofInt ((0 : Nat) : Int)) rfl ?_
    refine lf_goto d_W_told_9 (tgt := 27) (by decide) ?_
    refine lf_istore_n d_W_told_27 rfl (by decide +kernel) (L2 := [(3, _), (0, _), (1, _), (2, _)]) rfl ?_
    refine lf_iload_n d_W_told_28 rfl rfl ?_
    refine lf_iconst d_W_told_29 (v := Int32.ofInt ((1 : Nat) : Int)) rfl ?_
    refine gi_icmp_eq d_W_told_30 (tgt := 38) (by decide) (by omega) (fun hb30 => False.elim (by exact absurd hb30 (by decide))) (fun hb30 => ?_)
    refine lf_iload_n d_W_told_33 rfl rfl ?_
    refine lf_iconst d_W_told_34 (v := Int32.ofInt ((1 : Nat) : Int)) rfl ?_
    refine gi_icmp_ne d_W_told_35 (tgt := 42) (by decide) (by omega) (fun hb35 => False.elim (by exact absurd hb35 (by decide))) (fun hb35 => ?_)
    refine lf_iconst d_W_told_38 (v := Int32.ofInt ((1 : Nat) : Int)) rfl ?_
    refine lf_goto d_W_told_39 (tgt := 55) (by decide) ?_
    refine lf_istore d_W_told_55 (by decide +kernel) (L2 := [(4, _), (3, _), (0, _), (1, _), (2, _)]) rfl ?_
    refine lf_iload_n d_W_told_57 rfl rfl ?_
    refine lf_bipush d_W_told_58 (v := Int32.ofInt ((97 : Nat) : Int)) (by decide +kernel) ?_
    refine gi_icmp_eq d_W_told_60 (tgt := 69) (by decide) (by omega) (fun hb60 => False.elim (by exact absurd hb60 (by decide))) (fun hb60 => ?_)
    refine lf_iload_n d_W_told_63 rfl rfl ?_
    refine lf_bipush d_W_told_64 (v := Int32.ofInt ((110 : Nat) : Int)) (by decide +kernel) ?_
    refine gi_icmp_ne d_W_told_66 (tgt := 73) (by decide) (by omega) (fun hb66 => False.elim (by exact absurd hb66 (by decide))) (fun hb66 => ?_)
    refine lf_iload_n d_W_told_69 rfl rfl ?_
    refine lf_goto d_W_told_70 (tgt := 117) (by decide) ?_
    refine lf_istore d_W_told_117 (by decide +kernel) (L2 := [(5, _), (4, _), (3, _), (0, _), (1, _), (2, _)]) rfl ?_
    refine lf_iload d_W_told_119 rfl ?_
    refine lf_iconst d_W_told_121 (v := Int32.ofInt ((2 : Nat) : Int)) rfl ?_
    refine gi_icmp_eq d_W_told_122 (tgt := 143) (by decide) (by omega) (fun hb122 => False.elim (by exact absurd hb122 (by decide))) (fun hb122 => ?_)
    refine lf_iload_n d_W_told_125 rfl rfl ?_
    refine lf_bipush d_W_told_126 (v := Int32.ofInt ((110 : Nat) : Int)) (by decide +kernel) ?_
    refine gi_icmp_eq d_W_told_128 (tgt := 148) (by decide) (by omega) (fun hb128 => ?_) (fun hb128 => False.elim (by exact absurd hb128 (by decide)))
    refine lf_iconst d_W_told_148 (v := Int32.ofInt ((1 : Nat) : Int)) rfl ?_
    refine lf_iload d_W_told_149 rfl ?_
    refine gi_isubN (a := 1) (b := 0) d_W_told_151 (by omega) ?_
    refine gw_iret d_W_told_152 rfl ?_
    exact ⟨rfl, rfl, rfl, rfl⟩
  · refine lf_iload_n d_W_told_0 rfl rfl ?_
    refine gi_if_eq d_W_told_1 (tgt := 8) (by decide) (by omega) (fun hb1 => ?_) (fun hb1 => False.elim (by exact absurd hb1 (by decide)))
    refine lf_iconst d_W_told_8 (v := Int32.ofInt ((0 : Nat) : Int)) rfl ?_
    refine lf_goto d_W_told_9 (tgt := 27) (by decide) ?_
    refine lf_istore_n d_W_told_27 rfl (by decide +kernel) (L2 := [(3, _), (0, _), (1, _), (2, _)]) rfl ?_
    refine lf_iload_n d_W_told_28 rfl rfl ?_
    refine lf_iconst d_W_told_29 (v := Int32.ofInt ((1 : Nat) : Int)) rfl ?_
    refine gi_icmp_eq d_W_told_30 (tgt := 38) (by decide) (by omega) (fun hb30 => False.elim (by exact absurd hb30 (by decide))) (fun hb30 => ?_)
    refine lf_iload_n d_W_told_33 rfl rfl ?_
    refine lf_iconst d_W_told_34 (v := Int32.ofInt ((1 : Nat) : Int)) rfl ?_
    refine gi_icmp_ne d_W_told_35 (tgt := 42) (by decide) (by omega) (fun hb35 => ?_) (fun hb35 => False.elim (by exact absurd hb35 (by decide)))
    refine lf_iload_n d_W_told_42 rfl rfl ?_
    refine gi_if_ne d_W_told_43 (tgt := 54) (by decide) (by omega) (fun hb43 => False.elim (by exact absurd hb43 (by decide))) (fun hb43 => ?_)
    refine lf_iload_n d_W_told_46 rfl rfl ?_
    refine gi_if_ne d_W_told_47 (tgt := 54) (by decide) (by omega) (fun hb47 => ?_) (fun hb47 => False.elim (by exact absurd hb47 (by decide)))
    refine lf_iconst d_W_told_54 (v := Int32.ofInt ((2 : Nat) : Int)) rfl ?_
    refine lf_istore d_W_told_55 (by decide +kernel) (L2 := [(4, _), (3, _), (0, _), (1, _), (2, _)]) rfl ?_
    refine lf_iload_n d_W_told_57 rfl rfl ?_
    refine lf_bipush d_W_told_58 (v := Int32.ofInt ((97 : Nat) : Int)) (by decide +kernel) ?_
    refine gi_icmp_eq d_W_told_60 (tgt := 69) (by decide) (by omega) (fun hb60 => False.elim (by exact absurd hb60 (by decide))) (fun hb60 => ?_)
    refine lf_iload_n d_W_told_63 rfl rfl ?_
    refine lf_bipush d_W_told_64 (v := Int32.ofInt ((110 : Nat) : Int)) (by decide +kernel) ?_
    refine gi_icmp_ne d_W_told_66 (tgt := 73) (by decide) (by omega) (fun hb66 => False.elim (by exact absurd hb66 (by decide))) (fun hb66 => ?_)
    refine lf_iload_n d_W_told_69 rfl rfl ?_
    refine lf_goto d_W_told_70 (tgt := 117) (by decide) ?_
    refine lf_istore d_W_told_117 (by decide +kernel) (L2 := [(5, _), (4, _), (3, _), (0, _), (1, _), (2, _)]) rfl ?_
    refine lf_iload d_W_told_119 rfl ?_
    refine lf_iconst d_W_told_121 (v := Int32.ofInt ((2 : Nat) : Int)) rfl ?_
    refine gi_icmp_eq d_W_told_122 (tgt := 143) (by decide) (by omega) (fun hb122 => False.elim (by exact absurd hb122 (by decide))) (fun hb122 => ?_)
    refine lf_iload_n d_W_told_125 rfl rfl ?_
    refine lf_bipush d_W_told_126 (v := Int32.ofInt ((110 : Nat) : Int)) (by decide +kernel) ?_
    refine gi_icmp_eq d_W_told_128 (tgt := 148) (by decide) (by omega) (fun hb128 => ?_) (fun hb128 => False.elim (by exact absurd hb128 (by decide)))
    refine lf_iconst d_W_told_148 (v := Int32.ofInt ((1 : Nat) : Int)) rfl ?_
    refine lf_iload d_W_told_149 rfl ?_
    refine gi_isubN (a := 1) (b := 0) d_W_told_151 (by omega) ?_
    refine gw_iret d_W_told_152 rfl ?_
    exact ⟨rfl, rfl, rfl, rfl⟩
  · refine lf_iload_n d_W_told_0 rfl rfl ?_
    refine gi_if_eq d_W_told_1 (tgt := 8) (by decide) (by omega) (fun hb1 => False.elim (by exact absurd hb1 (by decide))) (fun hb1 => ?_)
    refine lf_iload_n d_W_told_4 rfl rfl ?_
    refine gi_if_ne d_W_told_5 (tgt := 12) (by decide) (by omega) (fun hb5 => False.elim (by exact absurd hb5 (by decide))) (fun hb5 => ?_)
    refine lf_iconst d_W_told_8 (v := Int32.ofInt ((0 : Nat) : Int)) rfl ?_
    refine lf_goto d_W_told_9 (tgt := 27) (by decide) ?_
    refine lf_istore_n d_W_told_27 rfl (by decide +kernel) (L2 := [(3, _), (0, _), (1, _), (2, _)]) rfl ?_
    refine lf_iload_n d_W_told_28 rfl rfl ?_
    refine lf_iconst d_W_told_29 (v := Int32.ofInt ((1 : Nat) : Int)) rfl ?_
    refine gi_icmp_eq d_W_told_30 (tgt := 38) (by decide) (by omega) (fun hb30 => ?_) (fun hb30 => False.elim (by exact absurd hb30 (by decide)))
    refine lf_iconst d_W_told_38 (v := Int32.ofInt ((1 : Nat) : Int)) rfl ?_
    refine lf_goto d_W_told_39 (tgt := 55) (by decide) ?_
    refine lf_istore d_W_told_55 (by decide +kernel) (L2 := [(4, _), (3, _), (0, _), (1, _), (2, _)]) rfl ?_
    refine lf_iload_n d_W_told_57 rfl rfl ?_
    refine lf_bipush d_W_told_58 (v := Int32.ofInt ((97 : Nat) : Int)) (by decide +kernel) ?_
    refine gi_icmp_eq d_W_told_60 (tgt := 69) (by decide) (by omega) (fun hb60 => False.elim (by exact absurd hb60 (by decide))) (fun hb60 => ?_)
    refine lf_iload_n d_W_told_63 rfl rfl ?_
    refine lf_bipush d_W_told_64 (v := Int32.ofInt ((110 : Nat) : Int)) (by decide +kernel) ?_
    refine gi_icmp_ne d_W_told_66 (tgt := 73) (by decide) (by omega) (fun hb66 => False.elim (by exact absurd hb66 (by decide))) (fun hb66 => ?_)
    refine lf_iload_n d_W_told_69 rfl rfl ?_
    refine lf_goto d_W_told_70 (tgt := 117) (by decide) ?_
    refine lf_istore d_W_told_117 (by decide +kernel) (L2 := [(5, _), (4, _), (3, _), (0, _), (1, _), (2, _)]) rfl ?_
    refine lf_iload d_W_told_119 rfl ?_
    refine lf_iconst d_W_told_121 (v := Int32.ofInt ((2 : Nat) : Int)) rfl ?_
    refine gi_icmp_eq d_W_told_122 (tgt := 143) (by decide) (by omega) (fun hb122 => False.elim (by exact absurd hb122 (by decide))) (fun hb122 => ?_)
    refine lf_iload_n d_W_told_125 rfl rfl ?_
    refine lf_bipush d_W_told_126 (v := Int32.ofInt ((110 : Nat) : Int)) (by decide +kernel) ?_
    refine gi_icmp_eq d_W_told_128 (tgt := 148) (by decide) (by omega) (fun hb128 => ?_) (fun hb128 => False.elim (by exact absurd hb128 (by decide)))
    refine lf_iconst d_W_told_148 (v := Int32.ofInt ((1 : Nat) : Int)) rfl ?_
    refine lf_iload d_W_told_149 rfl ?_
    refine gi_isubN (a := 1) (b := 0) d_W_told_151 (by omega) ?_
    refine gw_iret d_W_told_152 rfl ?_
    exact ⟨rfl, rfl, rfl, rfl⟩
  · refine lf_iload_n d_W_told_0 rfl rfl ?_
    refine gi_if_eq d_W_told_1 (tgt := 8) (by decide) (by omega) (fun hb1 => False.elim (by exact absurd hb1 (by decide))) (fun hb1 => ?_)
    refine lf_iload_n d_W_told_4 rfl rfl ?_
    refine gi_if_ne d_W_told_5 (tgt := 12) (by decide) (by omega) (fun hb5 => ?_) (fun hb5 => False.elim (by exact absurd hb5 (by decide)))
    refine lf_iload_n d_W_told_12 rfl rfl ?_
    refine lf_iconst d_W_told_13 (v := Int32.ofInt ((1 : Nat) : Int)) rfl ?_
    refine gi_icmp_ne d_W_told_14 (tgt := 26) (by decide) (by omega) (fun hb14 => False.elim (by exact absurd hb14 (by decide))) (fun hb14 => ?_)
    refine lf_iload_n d_W_told_17 rfl rfl ?_
    refine lf_iconst d_W_told_18 (v := Int32.ofInt ((1 : Nat) : Int)) rfl ?_
    refine gi_icmp_ne d_W_told_19 (tgt := 26) (by decide) (by omega) (fun hb19 => False.elim (by exact absurd hb19 (by decide))) (fun hb19 => ?_)
    refine lf_iconst d_W_told_22 (v := Int32.ofInt ((1 : Nat) : Int)) rfl ?_
    refine lf_goto d_W_told_23 (tgt := 27) (by decide) ?_
    refine lf_istore_n d_W_told_27 rfl (by decide +kernel) (L2 := [(3, _), (0, _), (1, _), (2, _)]) rfl ?_
    refine lf_iload_n d_W_told_28 rfl rfl ?_
    refine lf_iconst d_W_told_29 (v := Int32.ofInt ((1 : Nat) : Int)) rfl ?_
    refine gi_icmp_eq d_W_told_30 (tgt := 38) (by decide) (by omega) (fun hb30 => ?_) (fun hb30 => False.elim (by exact absurd hb30 (by decide)))
    refine lf_iconst d_W_told_38 (v := Int32.ofInt ((1 : Nat) : Int)) rfl ?_
    refine lf_goto d_W_told_39 (tgt := 55) (by decide) ?_
    refine lf_istore d_W_told_55 (by decide +kernel) (L2 := [(4, _), (3, _), (0, _), (1, _), (2, _)]) rfl ?_
    refine lf_iload_n d_W_told_57 rfl rfl ?_
    refine lf_bipush d_W_told_58 (v := Int32.ofInt ((97 : Nat) : Int)) (by decide +kernel) ?_
    refine gi_icmp_eq d_W_told_60 (tgt := 69) (by decide) (by omega) (fun hb60 => False.elim (by exact absurd hb60 (by decide))) (fun hb60 => ?_)
    refine lf_iload_n d_W_told_63 rfl rfl ?_
    refine lf_bipush d_W_told_64 (v := Int32.ofInt ((110 : Nat) : Int)) (by decide +kernel) ?_
    refine gi_icmp_ne d_W_told_66 (tgt := 73) (by decide) (by omega) (fun hb66 => False.elim (by exact absurd hb66 (by decide))) (fun hb66 => ?_)
    refine lf_iload_n d_W_told_69 rfl rfl ?_
    refine lf_goto d_W_told_70 (tgt := 117) (by decide) ?_
    refine lf_istore d_W_told_117 (by decide +kernel) (L2 := [(5, _), (4, _), (3, _), (0, _), (1, _), (2, _)]) rfl ?_
    refine lf_iload d_W_told_119 rfl ?_
    refine lf_iconst d_W_told_121 (v := Int32.ofInt ((2 : Nat) : Int)) rfl ?_
    refine gi_icmp_eq d_W_told_122 (tgt := 143) (by decide) (by omega) (fun hb122 => False.elim (by exact absurd hb122 (by decide))) (fun hb122 => ?_)
    refine lf_iload_n d_W_told_125 rfl rfl ?_
    refine lf_bipush d_W_told_126 (v := Int32.ofInt ((110 : Nat) : Int)) (by decide +kernel) ?_
    refine gi_icmp_eq d_W_told_128 (tgt := 148) (by decide) (by omega) (fun hb128 => ?_) (fun hb128 => False.elim (by exact absurd hb128 (by decide)))
    refine lf_iconst d_W_told_148 (v := Int32.ofInt ((1 : Nat) : Int)) rfl ?_
    refine lf_iload d_W_told_149 rfl ?_
    refine gi_isubN (a := 1) (b := 1) d_W_told_151 (by omega) ?_
    refine gw_iret d_W_told_152 rfl ?_
    exact ⟨rfl, rfl, rfl, rfl⟩
  · refine lf_iload_n d_W_told_0 rfl rfl ?_
    refine gi_if_eq d_W_told_1 (tgt := 8) (by decide) (by omega) (fun hb1 => False.elim (by exact absurd hb1 (by decide))) (fun hb1 => ?_)
    refine lf_iload_n d_W_told_4 rfl rfl ?_
    refine gi_if_ne d_W_told_5 (tgt := 12) (by decide) (by omega) (fun hb5 => ?_) (fun hb5 => False.elim (by exact absurd hb5 (by decide)))
    refine lf_iload_n d_W_told_12 rfl rfl ?_
    refine lf_iconst d_W_told_13 (v := Int32.ofInt ((1 : Nat) : Int)) rfl ?_
    refine gi_icmp_ne d_W_told_14 (tgt := 26) (by decide) (by omega) (fun hb14 => False.elim (by exact absurd hb14 (by decide))) (fun hb14 => ?_)
    refine lf_iload_n d_W_told_17 rfl rfl ?_
    refine lf_iconst d_W_told_18 (v := Int32.ofInt ((1 : Nat) : Int)) rfl ?_
    refine gi_icmp_ne d_W_told_19 (tgt := 26) (by decide) (by omega) (fun hb19 => ?_) (fun hb19 => False.elim (by exact absurd hb19 (by decide)))
    refine lf_iconst d_W_told_26 (v := Int32.ofInt ((2 : Nat) : Int)) rfl ?_
    refine lf_istore_n d_W_told_27 rfl (by decide +kernel) (L2 := [(3, _), (0, _), (1, _), (2, _)]) rfl ?_
    refine lf_iload_n d_W_told_28 rfl rfl ?_
    refine lf_iconst d_W_told_29 (v := Int32.ofInt ((1 : Nat) : Int)) rfl ?_
    refine gi_icmp_eq d_W_told_30 (tgt := 38) (by decide) (by omega) (fun hb30 => ?_) (fun hb30 => False.elim (by exact absurd hb30 (by decide)))
    refine lf_iconst d_W_told_38 (v := Int32.ofInt ((1 : Nat) : Int)) rfl ?_
    refine lf_goto d_W_told_39 (tgt := 55) (by decide) ?_
    refine lf_istore d_W_told_55 (by decide +kernel) (L2 := [(4, _), (3, _), (0, _), (1, _), (2, _)]) rfl ?_
    refine lf_iload_n d_W_told_57 rfl rfl ?_
    refine lf_bipush d_W_told_58 (v := Int32.ofInt ((97 : Nat) : Int)) (by decide +kernel) ?_
    refine gi_icmp_eq d_W_told_60 (tgt := 69) (by decide) (by omega) (fun hb60 => False.elim (by exact absurd hb60 (by decide))) (fun hb60 => ?_)
    refine lf_iload_n d_W_told_63 rfl rfl ?_
    refine lf_bipush d_W_told_64 (v := Int32.ofInt ((110 : Nat) : Int)) (by decide +kernel) ?_
    refine gi_icmp_ne d_W_told_66 (tgt := 73) (by decide) (by omega) (fun hb66 => False.elim (by exact absurd hb66 (by decide))) (fun hb66 => ?_)
    refine lf_iload_n d_W_told_69 rfl rfl ?_
    refine lf_goto d_W_told_70 (tgt := 117) (by decide) ?_
    refine lf_istore d_W_told_117 (by decide +kernel) (L2 := [(5, _), (4, _), (3, _), (0, _), (1, _), (2, _)]) rfl ?_
    refine lf_iload d_W_told_119 rfl ?_
    refine lf_iconst d_W_told_121 (v := Int32.ofInt ((2 : Nat) : Int)) rfl ?_
    refine gi_icmp_eq d_W_told_122 (tgt := 143) (by decide) (by omega) (fun hb122 => ?_) (fun hb122 => False.elim (by exact absurd hb122 (by decide)))
    refine lf_iload d_W_told_143 rfl ?_
    refine lf_goto d_W_told_145 (tgt := 152) (by decide) ?_
    refine gw_iret d_W_told_152 rfl ?_
    exact ⟨rfl, rfl, rfl, rfl⟩
  · refine lf_iload_n d_W_told_0 rfl rfl ?_
    refine gi_if_eq d_W_told_1 (tgt := 8) (by decide) (by omega) (fun hb1 => False.elim (by exact absurd hb1 (by decide))) (fun hb1 => ?_)
    refine lf_iload_n d_W_told_4 rfl rfl ?_
    refine gi_if_ne d_W_told_5 (tgt := 12) (by decide) (by omega) (fun hb5 => False.elim (by exact absurd hb5 (by decide))) (fun hb5 => ?_)
    refine lf_iconst d_W_told_8 (v := Int32.ofInt ((0 : Nat) : Int)) rfl ?_
    refine lf_goto d_W_told_9 (tgt := 27) (by decide) ?_
    refine lf_istore_n d_W_told_27 rfl (by decide +kernel) (L2 := [(3, _), (0, _), (1, _), (2, _)]) rfl ?_
    refine lf_iload_n d_W_told_28 rfl rfl ?_
    refine lf_iconst d_W_told_29 (v := Int32.ofInt ((1 : Nat) : Int)) rfl ?_
    refine gi_icmp_eq d_W_told_30 (tgt := 38) (by decide) (by omega) (fun hb30 => False.elim (by exact absurd hb30 (by decide))) (fun hb30 => ?_)
    refine lf_iload_n d_W_told_33 rfl rfl ?_
    refine lf_iconst d_W_told_34 (v := Int32.ofInt ((1 : Nat) : Int)) rfl ?_
    refine gi_icmp_ne d_W_told_35 (tgt := 42) (by decide) (by omega) (fun hb35 => ?_) (fun hb35 => False.elim (by exact absurd hb35 (by decide)))
    refine lf_iload_n d_W_told_42 rfl rfl ?_
    refine gi_if_ne d_W_told_43 (tgt := 54) (by decide) (by omega) (fun hb43 => ?_) (fun hb43 => False.elim (by exact absurd hb43 (by decide)))
    refine lf_iconst d_W_told_54 (v := Int32.ofInt ((2 : Nat) : Int)) rfl ?_
    refine lf_istore d_W_told_55 (by decide +kernel) (L2 := [(4, _), (3, _), (0, _), (1, _), (2, _)]) rfl ?_
    refine lf_iload_n d_W_told_57 rfl rfl ?_
    refine lf_bipush d_W_told_58 (v := Int32.ofInt ((97 : Nat) : Int)) (by decide +kernel) ?_
    refine gi_icmp_eq d_W_told_60 (tgt := 69) (by decide) (by omega) (fun hb60 => False.elim (by exact absurd hb60 (by decide))) (fun hb60 => ?_)
    refine lf_iload_n d_W_told_63 rfl rfl ?_
    refine lf_bipush d_W_told_64 (v := Int32.ofInt ((110 : Nat) : Int)) (by decide +kernel) ?_
    refine gi_icmp_ne d_W_told_66 (tgt := 73) (by decide) (by omega) (fun hb66 => False.elim (by exact absurd hb66 (by decide))) (fun hb66 => ?_)
    refine lf_iload_n d_W_told_69 rfl rfl ?_
    refine lf_goto d_W_told_70 (tgt := 117) (by decide) ?_
    refine lf_istore d_W_told_117 (by decide +kernel) (L2 := [(5, _), (4, _), (3, _), (0, _), (1, _), (2, _)]) rfl ?_
    refine lf_iload d_W_told_119 rfl ?_
    refine lf_iconst d_W_told_121 (v := Int32.ofInt ((2 : Nat) : Int)) rfl ?_
    refine gi_icmp_eq d_W_told_122 (tgt := 143) (by decide) (by omega) (fun hb122 => False.elim (by exact absurd hb122 (by decide))) (fun hb122 => ?_)
    refine lf_iload_n d_W_told_125 rfl rfl ?_
    refine lf_bipush d_W_told_126 (v := Int32.ofInt ((110 : Nat) : Int)) (by decide +kernel) ?_
    refine gi_icmp_eq d_W_told_128 (tgt := 148) (by decide) (by omega) (fun hb128 => ?_) (fun hb128 => False.elim (by exact absurd hb128 (by decide)))
    refine lf_iconst d_W_told_148 (v := Int32.ofInt ((1 : Nat) : Int)) rfl ?_
    refine lf_iload d_W_told_149 rfl ?_
    refine gi_isubN (a := 1) (b := 0) d_W_told_151 (by omega) ?_
    refine gw_iret d_W_told_152 rfl ?_
    exact ⟨rfl, rfl, rfl, rfl⟩
  · refine lf_iload_n d_W_told_0 rfl rfl ?_
    refine gi_if_eq d_W_told_1 (tgt := 8) (by decide) (by omega) (fun hb1 => False.elim (by exact absurd hb1 (by decide))) (fun hb1 => ?_)
    refine lf_iload_n d_W_told_4 rfl rfl ?_
    refine gi_if_ne d_W_told_5 (tgt := 12) (by decide) (by omega) (fun hb5 => ?_) (fun hb5 => False.elim (by exact absurd hb5 (by decide)))
    refine lf_iload_n d_W_told_12 rfl rfl ?_
    refine lf_iconst d_W_told_13 (v := Int32.ofInt ((1 : Nat) : Int)) rfl ?_
    refine gi_icmp_ne d_W_told_14 (tgt := 26) (by decide) (by omega) (fun hb14 => ?_) (fun hb14 => False.elim (by exact absurd hb14 (by decide)))
    refine lf_iconst d_W_told_26 (v := Int32.ofInt ((2 : Nat) : Int)) rfl ?_
    refine lf_istore_n d_W_told_27 rfl (by decide +kernel) (L2 := [(3, _), (0, _), (1, _), (2, _)]) rfl ?_
    refine lf_iload_n d_W_told_28 rfl rfl ?_
    refine lf_iconst d_W_told_29 (v := Int32.ofInt ((1 : Nat) : Int)) rfl ?_
    refine gi_icmp_eq d_W_told_30 (tgt := 38) (by decide) (by omega) (fun hb30 => False.elim (by exact absurd hb30 (by decide))) (fun hb30 => ?_)
    refine lf_iload_n d_W_told_33 rfl rfl ?_
    refine lf_iconst d_W_told_34 (v := Int32.ofInt ((1 : Nat) : Int)) rfl ?_
    refine gi_icmp_ne d_W_told_35 (tgt := 42) (by decide) (by omega) (fun hb35 => False.elim (by exact absurd hb35 (by decide))) (fun hb35 => ?_)
    refine lf_iconst d_W_told_38 (v := Int32.ofInt ((1 : Nat) : Int)) rfl ?_
    refine lf_goto d_W_told_39 (tgt := 55) (by decide) ?_
    refine lf_istore d_W_told_55 (by decide +kernel) (L2 := [(4, _), (3, _), (0, _), (1, _), (2, _)]) rfl ?_
    refine lf_iload_n d_W_told_57 rfl rfl ?_
    refine lf_bipush d_W_told_58 (v := Int32.ofInt ((97 : Nat) : Int)) (by decide +kernel) ?_
    refine gi_icmp_eq d_W_told_60 (tgt := 69) (by decide) (by omega) (fun hb60 => False.elim (by exact absurd hb60 (by decide))) (fun hb60 => ?_)
    refine lf_iload_n d_W_told_63 rfl rfl ?_
    refine lf_bipush d_W_told_64 (v := Int32.ofInt ((110 : Nat) : Int)) (by decide +kernel) ?_
    refine gi_icmp_ne d_W_told_66 (tgt := 73) (by decide) (by omega) (fun hb66 => False.elim (by exact absurd hb66 (by decide))) (fun hb66 => ?_)
    refine lf_iload_n d_W_told_69 rfl rfl ?_
    refine lf_goto d_W_told_70 (tgt := 117) (by decide) ?_
    refine lf_istore d_W_told_117 (by decide +kernel) (L2 := [(5, _), (4, _), (3, _), (0, _), (1, _), (2, _)]) rfl ?_
    refine lf_iload d_W_told_119 rfl ?_
    refine lf_iconst d_W_told_121 (v := Int32.ofInt ((2 : Nat) : Int)) rfl ?_
    refine gi_icmp_eq d_W_told_122 (tgt := 143) (by decide) (by omega) (fun hb122 => ?_) (fun hb122 => False.elim (by exact absurd hb122 (by decide)))
    refine lf_iload d_W_told_143 rfl ?_
    refine lf_goto d_W_told_145 (tgt := 152) (by decide) ?_
    refine gw_iret d_W_told_152 rfl ?_
    exact ⟨rfl, rfl, rfl, rfl⟩
  · refine lf_iload_n d_W_told_0 rfl rfl ?_
    refine gi_if_eq d_W_told_1 (tgt := 8) (by decide) (by omega) (fun hb1 => False.elim (by exact absurd hb1 (by decide))) (fun hb1 => ?_)
    refine lf_iload_n d_W_told_4 rfl rfl ?_
    refine gi_if_ne d_W_told_5 (tgt := 12) (by decide) (by omega) (fun hb5 => ?_) (fun hb5 => False.elim (by exact absurd hb5 (by decide)))
    refine lf_iload_n d_W_told_12 rfl rfl ?_
    refine lf_iconst d_W_told_13 (v := Int32.ofInt ((1 : Nat) : Int)) rfl ?_
    refine gi_icmp_ne d_W_told_14 (tgt := 26) (by decide) (by omega) (fun hb14 => ?_) (fun hb14 => False.elim (by exact absurd hb14 (by decide)))
    refine lf_iconst d_W_told_26 (v := Int32.ofInt ((2 : Nat) : Int)) rfl ?_
    refine lf_istore_n d_W_told_27 rfl (by decide +kernel) (L2 := [(3, _), (0, _), (1, _), (2, _)]) rfl ?_
    refine lf_iload_n d_W_told_28 rfl rfl ?_
    refine lf_iconst d_W_told_29 (v := Int32.ofInt ((1 : Nat) : Int)) rfl ?_
    refine gi_icmp_eq d_W_told_30 (tgt := 38) (by decide) (by omega) (fun hb30 => False.elim (by exact absurd hb30 (by decide))) (fun hb30 => ?_)
    refine lf_iload_n d_W_told_33 rfl rfl ?_
    refine lf_iconst d_W_told_34 (v := Int32.ofInt ((1 : Nat) : Int)) rfl ?_
    refine gi_icmp_ne d_W_told_35 (tgt := 42) (by decide) (by omega) (fun hb35 => ?_) (fun hb35 => False.elim (by exact absurd hb35 (by decide)))
    refine lf_iload_n d_W_told_42 rfl rfl ?_
    refine gi_if_ne d_W_told_43 (tgt := 54) (by decide) (by omega) (fun hb43 => ?_) (fun hb43 => False.elim (by exact absurd hb43 (by decide)))
    refine lf_iconst d_W_told_54 (v := Int32.ofInt ((2 : Nat) : Int)) rfl ?_
    refine lf_istore d_W_told_55 (by decide +kernel) (L2 := [(4, _), (3, _), (0, _), (1, _), (2, _)]) rfl ?_
    refine lf_iload_n d_W_told_57 rfl rfl ?_
    refine lf_bipush d_W_told_58 (v := Int32.ofInt ((97 : Nat) : Int)) (by decide +kernel) ?_
    refine gi_icmp_eq d_W_told_60 (tgt := 69) (by decide) (by omega) (fun hb60 => False.elim (by exact absurd hb60 (by decide))) (fun hb60 => ?_)
    refine lf_iload_n d_W_told_63 rfl rfl ?_
    refine lf_bipush d_W_told_64 (v := Int32.ofInt ((110 : Nat) : Int)) (by decide +kernel) ?_
    refine gi_icmp_ne d_W_told_66 (tgt := 73) (by decide) (by omega) (fun hb66 => False.elim (by exact absurd hb66 (by decide))) (fun hb66 => ?_)
    refine lf_iload_n d_W_told_69 rfl rfl ?_
    refine lf_goto d_W_told_70 (tgt := 117) (by decide) ?_
    refine lf_istore d_W_told_117 (by decide +kernel) (L2 := [(5, _), (4, _), (3, _), (0, _), (1, _), (2, _)]) rfl ?_
    refine lf_iload d_W_told_119 rfl ?_
    refine lf_iconst d_W_told_121 (v := Int32.ofInt ((2 : Nat) : Int)) rfl ?_
    refine gi_icmp_eq d_W_told_122 (tgt := 143) (by decide) (by omega) (fun hb122 => ?_) (fun hb122 => False.elim (by exact absurd hb122 (by decide)))
    refine lf_iload d_W_told_143 rfl ?_
    refine lf_goto d_W_told_145 (tgt := 152) (by decide) ?_
    refine gw_iret d_W_told_152 rfl ?_
    exact ⟨rfl, rfl, rfl, rfl⟩
theorem w_told111 (hx : HX X L9 xs) {a b : Nat} (ha : a ≤ 2) (hb : b ≤ 2) : EVp TT cl6 X mi_W_told 0 [.int (Int32.ofInt ((111 : Nat) : Int)), .int (Int32.ofInt ((a : Nat) : Int)), .int (Int32.ofInt ((b : Nat) : Int))] sh I J (.int (Int32.ofInt ((tldN 111 a b : Nat) : Int))) := by
  have h9 : (a = 0 ∨ a = 1 ∨ a = 2) ∧ (b = 0 ∨ b = 1 ∨ b = 2) := by omega
  obtain ⟨h1, h2⟩ := h9
  refine gw_enter (hx_ok hx) (by decide +kernel) (Nat.le_of_ble_eq_true rfl) (L := [(0, _), (1, _), (2, _)]) rfl ?_
  rcases h1 with rfl | rfl | rfl <;> rcases h2 with rfl | rfl | rfl
  · refine lf_iload_n d_W_told_0 rfl rfl ?_
    refine gi_if_eq d_W_told_1 (tgt := 8) (by decide) (by omega) (fun hb1 => ?_) (fun hb1 => False.elim (by exact absurd hb1 (by decide)))
    refine lf_iconst d_W_told_8 (v := Int32.ofInt ((0 : Nat) : Int)) rfl ?_
    refine lf_goto d_W_told_9 (tgt := 27) (by decide) ?_
    refine lf_istore_n d_W_told_27 rfl (by decide +kernel) (L2 := [(3, _), (0, _), (1, _), (2, _)]) rfl ?_
    refine lf_iload_n d_W_told_28 rfl rfl ?_
    refine lf_iconst d_W_told_29 (v := Int32.ofInt ((1 : Nat) : Int)) rfl ?_
    refine gi_icmp_eq d_W_told_30 (tgt := 38) (by decide) (by omega) (fun hb30 => False.elim (by exact absurd hb30 (by decide))) (fun hb30 => ?_)
    refine lf_iload_n d_W_told_33 rfl rfl ?_
    refine lf_iconst d_W_told_34 (v := Int32.ofInt ((1 : Nat) : Int)) rfl ?_
    refine gi_icmp_ne d_W_told_35 (tgt := 42) (by decide) (by omega) (fun hb35 => ?_) (fun hb35 => False.elim (by exact absurd hb35 (by decide)))
    refine lf_iload_n d_W_told_42 rfl rfl ?_
    refine gi_if_ne d_W_told_43 (tgt := 54) (by decide) (by omega) (fun hb43 => False.elim (by exact absurd hb43 (by decide))) (fun hb43 => ?_)
    refine lf_iload_n d_W_told_46 rfl rfl ?_
    refine gi_if_ne d_W_told_47 (tgt := 54) (by decide) (by omega) (fun hb47 => False.elim (by exact absurd hb47 (by decide))) (fun hb47 => ?_)
    refine lf_iconst d_W_told_50 (v := Int32.ofInt ((0 : Nat) : Int)) rfl ?_
    refine lf_goto d_W_told_51 (tgt := 55) (by decide) ?_
    refine lf_istore d_W_told_55 (by decide +kernel) (L2 := [(4, _), (3, _), (0, _), (1, _), (2, _)]) rfl ?_
    refine lf_iload_n d_W_told_57 rfl rfl ?_
    refine lf_bipush d_W_told_58 (v := Int32.ofInt ((97 : Nat) : Int)) (by decide +kernel) ?_
    refine gi_icmp_eq d_W_told_60 (tgt := 69) (by decide) (by omega) (fun hb60 => False.elim (by exact absurd hb60 (by decide))) (fun hb60 => ?_)
    refine lf_iload_n d_W_told_63 rfl rfl ?_
    refine lf_bipush d_W_told_64 (v := Int32.ofInt ((110 : Nat) : Int)) (by decide +kernel) ?_
    refine gi_icmp_ne d_W_told_66 (tgt := 73) (by decide) (by omega) (fun hb66 => ?_) (fun hb66 => False.elim (by exact absurd hb66 (by decide)))
    refine lf_iload_n d_W_told_73 rfl rfl ?_
    refine lf_bipush d_W_told_74 (v := Int32.ofInt ((111 : Nat) : Int)) (by decide +kernel) ?_
    refine gi_icmp_eq d_W_told_76 (tgt := 85) (by decide) (by omega) (fun hb76 => ?_) (fun hb76 => False.elim (by exact absurd hb76 (by decide)))
    refine lf_iload d_W_told_85 rfl ?_
    refine lf_goto d_W_told_87 (tgt := 117) (by decide) ?_
    refine lf_istore d_W_told_117 (by decide +kernel) (L2 := [(5, _), (4, _), (3, _), (0, _), (1, _), (2, _)]) rfl ?_
    refine lf_iload d_W_told_119 rfl ?_
    refine lf_iconst d_W_told_121 (v := Int32.ofInt ((2 : Nat) : Int)) rfl ?_
    refine gi_icmp_eq d_W_told_122 (tgt := 143) (by decide) (by omega) (fun hb122 => False.elim (by exact absurd hb122 (by decide))) (fun hb122 => ?_)
    refine lf_iload_n d_W_told_125 rfl rfl ?_
    refine lf_bipush d_W_told_126 (v := Int32.ofInt ((110 : Nat) : Int)) (by decide +kernel) ?_
    refine gi_icmp_eq d_W_told_128 (tgt := 148) (by decide) (by omega) (fun hb128 => False.elim (by exact absurd hb128 (by decide))) (fun hb128 => ?_)
    refine lf_iload_n d_W_told_131 rfl rfl ?_
    refine lf_bipush d_W_told_132 (v := Int32.ofInt ((114 : Nat) : Int)) (by decide +kernel) ?_
    refine gi_icmp_eq d_W_told_134 (tgt := 148) (by decide) (by omega) (fun hb134 => False.elim (by exact absurd hb134 (by decide))) (fun hb134 => ?_)
    refine lf_iload_n d_W_told_137 rfl rfl ?_
    refine lf_bipush d_W_told_138 (v := Int32.ofInt ((118 : Nat) : Int)) (by decide +kernel) ?_
    refine gi_icmp_eq d_W_told_140 (tgt := 148) (by decide) (by omega) (fun hb140 => False.elim (by exact absurd hb140 (by decide))) (fun hb140 => ?_)
    refine lf_iload d_W_told_143 rfl ?_
    refine lf_goto d_W_told_145 (tgt := 152) (by decide) ?_
    refine gw_iret d_W_told_152 rfl ?_
    exact ⟨rfl, rfl, rfl, rfl⟩
  · refine lf_iload_n d_W_told_0 rfl rfl ?_
    refine gi_if_eq d_W_told_1 (tgt := 8) (by decide) (by omega) (fun hb1 => ?_) (fun hb1 => False.elim (by exact absurd hb1 (by decide)))
    refine lf_iconst d_W_told_8 (v := Int32.ofInt ((0 : Nat) : Int)) rfl ?_
    refine lf_goto d_W_told_9 (tgt := 27) (by decide) ?_
    refine lf_istore_n d_W_told_27 rfl (by decide +kernel) (L2 := [(3, _), (0, _), (1, _), (2, _)]) rfl ?_
    refine lf_iload_n d_W_told_28 rfl rfl ?_
    refine lf_iconst d_W_told_29 (v := Int32.ofInt ((1 : Nat) : Int)) rfl ?_
    refine gi_icmp_eq d_W_told_30 (tgt := 38) (by decide) (by omega) (fun hb30 => False.elim (by exact absurd hb30 (by decide))) (fun hb30 => ?_)
    refine lf_iload_n d_W_told_33 rfl rfl ?_
    refine lf_iconst d_W_told_34 (v := Int32.ofInt ((1 : Nat) : Int)) rfl ?_
    refine gi_icmp_ne d_W_told_35 (tgt := 42) (by decide) (by omega) (fun hb35 => False.elim (by exact absurd hb35 (by decide))) (fun hb35 => ?_)
    refine lf_iconst d_W_told_38 (v := Int32.ofInt ((1 : Nat) : Int)) rfl ?_
    refine lf_goto d_W_told_39 (tgt := 55) (by decide) ?_
    refine lf_istore d_W_told_55 (by decide +kernel) (L2 := [(4, _), (3, _), (0, _), (1, _), (2, _)]) rfl ?_
    refine lf_iload_n d_W_told_57 rfl rfl ?_
    refine lf_bipush d_W_told_58 (v := Int32.ofInt ((97 : Nat) : Int)) (by decide +kernel) ?_
    refine gi_icmp_eq d_W_told_60 (tgt := 69) (by decide) (by omega) (fun hb60 => False.elim (by exact absurd hb60 (by decide))) (fun hb60 => ?_)
    refine lf_iload_n d_W_told_63 rfl rfl ?_
    refine lf_bipush d_W_told_64 (v := Int32.ofInt ((110 : Nat) : Int)) (by decide +kernel) ?_
    refine gi_icmp_ne d_W_told_66 (tgt := 73) (by decide) (by omega) (fun hb66 => ?_) (fun hb66 => False.elim (by exact absurd hb66 (by decide)))
    refine lf_iload_n d_W_told_73 rfl rfl ?_
    refine lf_bipush d_W_told_74 (v := Int32.ofInt ((111 : Nat) : Int)) (by decide +kernel) ?_
    refine gi_icmp_eq d_W_told_76 (tgt := 85) (by decide) (by omega) (fun hb76 => ?_) (fun hb76 => False.elim (by exact absurd hb76 (by decide)))
    refine lf_iload d_W_told_85 rfl ?_
    refine lf_goto d_W_told_87 (tgt := 117) (by decide) ?_
    refine lf_istore d_W_told_117 (by decide +kernel) (L2 := [(5, _), (4, _), (3, _), (0, _), (1, _), (2, _)]) rfl ?_
    refine lf_iload d_W_told_119 rfl ?_
    refine lf_iconst d_W_told_121 (v := Int32.ofInt ((2 : Nat) : Int)) rfl ?_
    refine gi_icmp_eq d_W_told_122 (tgt := 143) (by decide) (by omega) (fun hb122 => False.elim (by exact absurd hb122 (by decide))) (fun hb122 => ?_)
    refine lf_iload_n d_W_told_125 rfl rfl ?_
    refine lf_bipush d_W_told_126 (v := Int32.ofInt ((110 : Nat) : Int)) (by decide +kernel) ?_
    refine gi_icmp_eq d_W_told_128 (tgt := 148) (by decide) (by omega) (fun hb128 => False.elim (by exact absurd hb128 (by decide))) (fun hb128 => ?_)
    refine lf_iload_n d_W_told_131 rfl rfl ?_
    refine lf_bipush d_W_told_132 (v := Int32.ofInt ((114 : Nat) : Int)) (by decide +kernel) ?_
    refine gi_icmp_eq d_W_told_134 (tgt := 148) (by decide) (by omega) (fun hb134 => False.elim (by exact absurd hb134 (by decide))) (fun hb134 => ?_)
    refine lf_iload_n d_W_told_137 rfl rfl ?_
    refine lf_bipush d_W_told_138 (v := Int32.ofInt ((118 : Nat) : Int)) (by decide +kernel) ?_
    refine gi_icmp_eq d_W_told_140 (tgt := 148) (by decide) (by omega) (fun hb140 => False.elim (by exact absurd hb140 (by decide))) (fun hb140 => ?_)
    refine lf_iload d_W_told_143 rfl ?_
    refine lf_goto d_W_told_145 (tgt := 152) (by decide) ?_
    refine gw_iret d_W_told_152 rfl ?_
    exact ⟨rfl, rfl, rfl, rfl⟩
  · refine lf_iload_n d_W_told_0 rfl rfl ?_
    refine gi_if_eq d_W_told_1 (tgt := 8) (by decide) (by omega) (fun hb1 => ?_) (fun hb1 => False.elim (by exact absurd hb1 (by decide)))
    refine lf_iconst d_W_told_8 (v := Int32.ofInt ((0 : Nat) : Int)) rfl ?_
    refine lf_goto d_W_told_9 (tgt := 27) (by decide) ?_
    refine lf_istore_n d_W_told_27 rfl (by decide +kernel) (L2 := [(3, _), (0, _), (1, _), (2, _)]) rfl ?_
    refine lf_iload_n d_W_told_28 rfl rfl ?_
    refine lf_iconst d_W_told_29 (v := Int32.ofInt ((1 : Nat) : Int)) rfl ?_
    refine gi_icmp_eq d_W_told_30 (tgt := 38) (by decide) (by omega) (fun hb30 => False.elim (by exact absurd hb30 (by decide))) (fun hb30 => ?_)
    refine lf_iload_n d_W_told_33 rfl rfl ?_
    refine lf_iconst d_W_told_34 (v := Int32.ofInt ((1 : Nat) : Int)) rfl ?_
    refine gi_icmp_ne d_W_told_35 (tgt := 42) (by decide) (by omega) (fun hb35 => ?_) (fun hb35 => False.elim (by exact absurd hb35 (by decide)))
    refine lf_iload_n d_W_told_42 rfl rfl ?_
    refine gi_if_ne d_W_told_43 (tgt := 54) (by decide) (by omega) (fun hb43 => False.elim (by exact absurd hb43 (by decide))) (fun hb43 => ?_)
    refine lf_iload_n d_W_told_46 rfl rfl ?_
    refine gi_if_ne d_W_told_47 (tgt := 54) (by decide) (by omega) (fun hb47 => ?_) (fun hb47 => False.elim (by exact absurd hb47 (by decide)))
    refine lf_iconst d_W_told_54 (v := Int32.ofInt ((2 : Nat) : Int)) rfl ?_
    refine lf_istore d_W_told_55 (by decide +kernel) (L2 := [(4, _), (3, _), (0, _), (1, _), (2, _)]) rfl ?_
    refine lf_iload_n d_W_told_57 rfl rfl ?_
    refine lf_bipush d_W_told_58 (v := Int32.ofInt ((97 : Nat) : Int)) (by decide +kernel) ?_
    refine gi_icmp_eq d_W_told_60 (tgt := 69) (by decide) (by omega) (fun hb60 => False.elim (by exact absurd hb60 (by decide))) (fun hb60 => ?_)
    refine lf_iload_n d_W_told_63 rfl rfl ?_
    refine lf_bipush d_W_told_64 (v := Int32.ofInt ((110 : Nat) : Int)) (by decide +kernel) ?_
    refine gi_icmp_ne d_W_told_66 (tgt := 73) (by decide) (by omega) (fun hb66 => ?_) (fun hb66 => False.elim (by exact absurd hb66 (by decide)))
    refine lf_iload_n d_W_told_73 rfl rfl ?_
    refine lf_bipush d_W_told_74 (v := Int32.ofInt ((111 : Nat) : Int)) (by decide +kernel) ?_
    refine gi_icmp_eq d_W_told_76 (tgt := 85) (by decide) (by omega) (fun hb76 => ?_) (fun hb76 => False.elim (by exact absurd hb76 (by decide)))
    refine lf_iload d_W_told_85 rfl ?_
    refine lf_goto d_W_told_87 (tgt := 117) (by decide) ?_
    refine lf_istore d_W_told_117 (by decide +kernel) (L2 := [(5, _), (4, _), (3, _), (0, _), (1, _), (2, _)]) rfl ?_
    refine lf_iload d_W_told_119 rfl ?_
    refine lf_iconst d_W_told_121 (v := Int32.ofInt ((2 : Nat) : Int)) rfl ?_
    refine gi_icmp_eq d_W_told_122 (tgt := 143) (by decide) (by omega) (fun hb122 => ?_) (fun hb122 => False.elim (by exact absurd hb122 (by decide)))
    refine lf_iload d_W_told_143 rfl ?_
    refine lf_goto d_W_told_145 (tgt := 152) (by decide) ?_
    refine gw_iret d_W_told_152 rfl ?_
    exact ⟨rfl, rfl, rfl, rfl⟩
  · refine lf_iload_n d_W_told_0 rfl rfl ?_
    refine gi_if_eq d_W_told_1 (tgt := 8) (by decide) (by omega) (fun hb1 => False.elim (by exact absurd hb1 (by decide))) (fun hb1 => ?_)
    refine lf_iload_n d_W_told_4 rfl rfl ?_
    refine gi_if_ne d_W_told_5 (tgt := 12) (by decide) (by omega) (fun hb5 => False.elim (by exact absurd hb5 (by decide))) (fun hb5 => ?_)
    refine lf_iconst d_W_told_8 (v := Int32.ofInt ((0 : Nat) : Int)) rfl ?_
    refine lf_goto d_W_told_9 (tgt := 27) (by decide) ?_
    refine lf_istore_n d_W_told_27 rfl (by decide +kernel) (L2 := [(3, _), (0, _), (1, _), (2, _)]) rfl ?_
    refine lf_iload_n d_W_told_28 rfl rfl ?_
    refine lf_iconst d_W_told_29 (v := Int32.ofInt ((1 : Nat) : Int)) rfl ?_
    refine gi_icmp_eq d_W_told_30 (tgt := 38) (by decide) (by omega) (fun hb30 => ?_) (fun hb30 => False.elim (by exact absurd hb30 (by decide)))
    refine lf_iconst d_W_told_38 (v := Int32.ofInt ((1 : Nat) : Int)) rfl ?_
    refine lf_goto d_W_told_39 (tgt := 55) (by decide) ?_
    refine lf_istore d_W_told_55 (by decide +kernel) (L2 := [(4, _), (3, _), (0, _), (1, _), (2, _)]) rfl ?_
    refine lf_iload_n d_W_told_57 rfl rfl ?_
    refine lf_bipush d_W_told_58 (v := Int32.ofInt ((97 : Nat) : Int)) (by decide +kernel) ?_
    refine gi_icmp_eq d_W_told_60 (tgt := 69) (by decide) (by omega) (fun hb60 => False.elim (by exact absurd hb60 (by decide))) (fun hb60 => ?_)
    refine lf_iload_n d_W_told_63 rfl rfl ?_
    refine lf_bipush d_W_told_64 (v := Int32.ofInt ((110 : Nat) : Int)) (by decide +kernel) ?_
    refine gi_icmp_ne d_W_told_66 (tgt := 73) (by decide) (by omega) (fun hb66 => ?_) (fun hb66 => False.elim (by exact absurd hb66 (by decide)))
    refine lf_iload_n d_W_told_73 rfl rfl ?_
    refine lf_bipush d_W_told_74 (v := Int32.ofInt ((111 : Nat) : Int)) (by decide +kernel) ?_
    refine gi_icmp_eq d_W_told_76 (tgt := 85) (by decide) (by omega) (fun hb76 => ?_) (fun hb76 => False.elim (by exact absurd hb76 (by decide)))
    refine lf_iload d_W_told_85 rfl ?_
    refine lf_goto d_W_told_87 (tgt := 117) (by decide) ?_
    refine lf_istore d_W_told_117 (by decide +kernel) (L2 := [(5, _), (4, _), (3, _), (0, _), (1, _), (2, _)]) rfl ?_
    refine lf_iload d_W_told_119 rfl ?_
    refine lf_iconst d_W_told_121 (v := Int32.ofInt ((2 : Nat) : Int)) rfl ?_
    refine gi_icmp_eq d_W_told_122 (tgt := 143) (by decide) (by omega) (fun hb122 => False.elim (by exact absurd hb122 (by decide))) (fun hb122 => ?_)
    refine lf_iload_n d_W_told_125 rfl rfl ?_
    refine lf_bipush d_W_told_126 (v := Int32.ofInt ((110 : Nat) : Int)) (by decide +kernel) ?_
    refine gi_icmp_eq d_W_told_128 (tgt := 148) (by decide) (by omega) (fun hb128 => False.elim (by exact absurd hb128 (by decide))) (fun hb128 => ?_)
    refine lf_iload_n d_W_told_131 rfl rfl ?_
    refine lf_bipush d_W_told_132 (v := Int32.ofInt ((114 : Nat) : Int)) (by decide +kernel) ?_
    refine gi_icmp_eq d_W_told_134 (tgt := 148) (by decide) (by omega) (fun hb134 => False.elim (by exact absurd hb134 (by decide))) (fun hb134 => ?_)
    refine lf_iload_n d_W_told_137 rfl rfl ?_
    refine lf_bipush d_W_told_138 (v := Int32.ofInt ((118 : Nat) : Int)) (by decide +kernel) ?_
    refine gi_icmp_eq d_W_told_140 (tgt := 148) (by decide) (by omega) (fun hb140 => False.elim (by exact absurd hb140 (by decide))) (fun hb140 => ?_)
    refine lf_iload d_W_told_143 rfl ?_
    refine lf_goto d_W_told_145 (tgt := 152) (by decide) ?_
    refine gw_iret d_W_told_152 rfl ?_
    exact ⟨rfl, rfl, rfl, rfl⟩
  · refine lf_iload_n d_W_told_0 rfl rfl ?_
    refine gi_if_eq d_W_told_1 (tgt := 8) (by decide) (by omega) (fun hb1 => False.elim (by exact absurd hb1 (by decide))) (fun hb1 => ?_)
    refine lf_iload_n d_W_told_4 rfl rfl ?_
    refine gi_if_ne d_W_told_5 (tgt := 12) (by decide) (by omega) (fun hb5 => ?_) (fun hb5 => False.elim (by exact absurd hb5 (by decide)))
    refine lf_iload_n d_W_told_12 rfl rfl ?_
    refine lf_iconst d_W_told_13 (v := Int32.ofInt ((1 : Nat) : Int)) rfl ?_
    refine gi_icmp_ne d_W_told_14 (tgt := 26) (by decide) (by omega) (fun hb14 => False.elim (by exact absurd hb14 (by decide))) (fun hb14 => ?_)
    refine lf_iload_n d_W_told_17 rfl rfl ?_
    refine lf_iconst d_W_told_18 (v := Int32.ofInt ((1 : Nat) : Int)) rfl ?_
    refine gi_icmp_ne d_W_told_19 (tgt := 26) (by decide) (by omega) (fun hb19 => False.elim (by exact absurd hb19 (by decide))) (fun hb19 => ?_)
    refine lf_iconst d_W_told_22 (v := Int32.ofInt ((1 : Nat) : Int)) rfl ?_
    refine lf_goto d_W_told_23 (tgt := 27) (by decide) ?_
    refine lf_istore_n d_W_told_27 rfl (by decide +kernel) (L2 := [(3, _), (0, _), (1, _), (2, _)]) rfl ?_
    refine lf_iload_n d_W_told_28 rfl rfl ?_
    refine lf_iconst d_W_told_29 (v := Int32.ofInt ((1 : Nat) : Int)) rfl ?_
    refine gi_icmp_eq d_W_told_30 (tgt := 38) (by decide) (by omega) (fun hb30 => ?_) (fun hb30 => False.elim (by exact absurd hb30 (by decide)))
    refine lf_iconst d_W_told_38 (v := Int32.ofInt ((1 : Nat) : Int)) rfl ?_
    refine lf_goto d_W_told_39 (tgt := 55) (by decide) ?_
    refine lf_istore d_W_told_55 (by decide +kernel) (L2 := [(4, _), (3, _), (0, _), (1, _), (2, _)]) rfl ?_
    refine lf_iload_n d_W_told_57 rfl rfl ?_
    refine lf_bipush d_W_told_58 (v := Int32.ofInt ((97 : Nat) : Int)) (by decide +kernel) ?_
    refine gi_icmp_eq d_W_told_60 (tgt := 69) (by decide) (by omega) (fun hb60 => False.elim (by exact absurd hb60 (by decide))) (fun hb60 => ?_)
    refine lf_iload_n d_W_told_63 rfl rfl ?_
    refine lf_bipush d_W_told_64 (v := Int32.ofInt ((110 : Nat) : Int)) (by decide +kernel) ?_
    refine gi_icmp_ne d_W_told_66 (tgt := 73) (by decide) (by omega) (fun hb66 => ?_) (fun hb66 => False.elim (by exact absurd hb66 (by decide)))
    refine lf_iload_n d_W_told_73 rfl rfl ?_
    refine lf_bipush d_W_told_74 (v := Int32.ofInt ((111 : Nat) : Int)) (by decide +kernel) ?_
    refine gi_icmp_eq d_W_told_76 (tgt := 85) (by decide) (by omega) (fun hb76 => ?_) (fun hb76 => False.elim (by exact absurd hb76 (by decide)))
    refine lf_iload d_W_told_85 rfl ?_
    refine lf_goto d_W_told_87 (tgt := 117) (by decide) ?_
    refine lf_istore d_W_told_117 (by decide +kernel) (L2 := [(5, _), (4, _), (3, _), (0, _), (1, _), (2, _)]) rfl ?_
    refine lf_iload d_W_told_119 rfl ?_
    refine lf_iconst d_W_told_121 (v := Int32.ofInt ((2 : Nat) : Int)) rfl ?_
    refine gi_icmp_eq d_W_told_122 (tgt := 143) (by decide) (by omega) (fun hb122 => False.elim (by exact absurd hb122 (by decide))) (fun hb122 => ?_)
    refine lf_iload_n d_W_told_125 rfl rfl ?_
    refine lf_bipush d_W_told_126 (v := Int32.ofInt ((110 : Nat) : Int)) (by decide +kernel) ?_
    refine gi_icmp_eq d_W_told_128 (tgt := 148) (by decide) (by omega) (fun hb128 => False.elim (by exact absurd hb128 (by decide))) (fun hb128 => ?_)
    refine lf_iload_n d_W_told_131 rfl rfl ?_
    refine lf_bipush d_W_told_132 (v := Int32.ofInt ((114 : Nat) : Int)) (by decide +kernel) ?_
    refine gi_icmp_eq d_W_told_134 (tgt := 148) (by decide) (by omega) (fun hb134 => False.elim (by exact absurd hb134 (by decide))) (fun hb134 => ?_)
    refine lf_iload_n d_W_told_137 rfl rfl ?_
    refine lf_bipush d_W_told_138 (v := Int32.ofInt ((118 : Nat) : Int)) (by decide +kernel) ?_
    refine gi_icmp_eq d_W_told_140 (tgt := 148) (by decide) (by omega) (fun hb140 => False.elim (by exact absurd hb140 (by decide))) (fun hb140 => ?_)
    refine lf_iload d_W_told_143 rfl ?_
    refine lf_goto d_W_told_145 (tgt := 152) (by decide) ?_
    refine gw_iret d_W_told_152 rfl ?_
    exact ⟨rfl, rfl, rfl, rfl⟩
  · refine lf_iload_n d_W_told_0 rfl rfl ?_
    refine gi_if_eq d_W_told_1 (tgt := 8) (by decide) (by omega) (fun hb1 => False.elim (by exact absurd hb1 (by decide))) (fun hb1 => ?_)
    refine lf_iload_n d_W_told_4 rfl rfl ?_
    refine gi_if_ne d_W_told_5 (tgt := 12) (by decide) (by omega) (fun hb5 => ?_) (fun hb5 => False.elim (by exact absurd hb5 (by decide)))
    refine lf_iload_n d_W_told_12 rfl rfl ?_
    refine lf_iconst d_W_told_13 (v := Int32.ofInt ((1 : Nat) : Int)) rfl ?_
    refine gi_icmp_ne d_W_told_14 (tgt := 26) (by decide) (by omega) (fun hb14 => False.elim (by exact absurd hb14 (by decide))) (fun hb14 => ?_)
    refine lf_iload_n d_W_told_17 rfl rfl ?_
    refine lf_iconst d_W_told_18 (v := Int32.ofInt ((1 : Nat) : Int)) rfl ?_
    refine gi_icmp_ne d_W_told_19 (tgt := 26) (by decide) (by omega) (fun hb19 => ?_) (fun hb19 => False.elim (by exact absurd hb19 (by decide)))
    refine lf_iconst d_W_told_26 (v := Int32.ofInt ((2 : Nat) : Int)) rfl ?_
    refine lf_istore_n d_W_told_27 rfl (by decide +kernel) (L2 := [(3, _), (0, _), (1, _), (2, _)]) rfl ?_
    refine lf_iload_n d_W_told_28 rfl rfl ?_
    refine lf_iconst d_W_told_29 (v := Int32.ofInt ((1 : Nat) : Int)) rfl ?_
    refine gi_icmp_eq d_W_told_30 (tgt := 38) (by decide) (by omega) (fun hb30 => ?_) (fun hb30 => False.elim (by exact absurd hb30 (by decide)))
    refine lf_iconst d_W_told_38 (v := Int32.ofInt ((1 : Nat) : Int)) rfl ?_
    refine lf_goto d_W_told_39 (tgt := 55) (by decide) ?_
    refine lf_istore d_W_told_55 (by decide +kernel) (L2 := [(4, _), (3, _), (0, _), (1, _), (2, _)]) rfl ?_
    refine lf_iload_n d_W_told_57 rfl rfl ?_
    refine lf_bipush d_W_told_58 (v := Int32.ofInt ((97 : Nat) : Int)) (by decide +kernel) ?_
    refine gi_icmp_eq d_W_told_60 (tgt := 69) (by decide) (by omega) (fun hb60 => False.elim (by exact absurd hb60 (by decide))) (fun hb60 => ?_)
    refine lf_iload_n d_W_told_63 rfl rfl ?_
    refine lf_bipush d_W_told_64 (v := Int32.ofInt ((110 : Nat) : Int)) (by decide +kernel) ?_
    refine gi_icmp_ne d_W_told_66 (tgt := 73) (by decide) (by omega) (fun hb66 => ?_) (fun hb66 => False.elim (by exact absurd hb66 (by decide)))
    refine lf_iload_n d_W_told_73 rfl rfl ?_
    refine lf_bipush d_W_told_74 (v := Int32.ofInt ((111 : Nat) : Int)) (by decide +kernel) ?_
    refine gi_icmp_eq d_W_told_76 (tgt := 85) (by decide) (by omega) (fun hb76 => ?_) (fun hb76 => False.elim (by exact absurd hb76 (by decide)))
    refine lf_iload d_W_told_85 rfl ?_
    refine lf_goto d_W_told_87 (tgt := 117) (by decide) ?_
    refine lf_istore d_W_told_117 (by decide +kernel) (L2 := [(5, _), (4, _), (3, _), (0, _), (1, _), (2, _)]) rfl ?_
    refine lf_iload d_W_told_119 rfl ?_
    refine lf_iconst d_W_told_121 (v := Int32.ofInt ((2 : Nat) : Int)) rfl ?_
    refine gi_icmp_eq d_W_told_122 (tgt := 143) (by decide) (by omega) (fun hb122 => False.elim (by exact absurd hb122 (by decide))) (fun hb122 => ?_)
    refine lf_iload_n d_W_told_125 rfl rfl ?_
    refine lf_bipush d_W_told_126 (v := Int32.ofInt ((110 : Nat) : Int)) (by decide +kernel) ?_
    refine gi_icmp_eq d_W_told_128 (tgt := 148) (by decide) (by omega) (fun hb128 => False.elim (by exact absurd hb128 (by decide))) (fun hb128 => ?_)
    refine lf_iload_n d_W_told_131 rfl rfl ?_
    refine lf_bipush d_W_told_132 (v := Int32.ofInt ((114 : Nat) : Int)) (by decide +kernel) ?_
    refine gi_icmp_eq d_W_told_134 (tgt := 148) (by decide) (by omega) (fun hb134 => False.elim (by exact absurd hb134 (by decide))) (fun hb134 => ?_)
    refine lf_iload_n d_W_told_137 rfl rfl ?_
    refine lf_bipush d_W_told_138 (v := Int32.ofInt ((118 : Nat) : Int)) (by decide +kernel) ?_
    refine gi_icmp_eq d_W_told_140 (tgt := 148) (by decide) (by omega) (fun hb140 => False.elim (by exact absurd hb140 (by decide))) (fun hb140 => ?_)
    refine lf_iload d_W_told_143 rfl ?_
    refine lf_goto d_W_told_145 (tgt := 152) (by decide) ?_
    refine gw_iret d_W_told_152 rfl ?_
    exact ⟨rfl, rfl, rfl, rfl⟩
  · refine lf_iload_n d_W_told_0 rfl rfl ?_
    refine gi_if_eq d_W_told_1 (tgt := 8) (by decide) (by omega) (fun hb1 => False.elim (by exact absurd hb1 (by decide))) (fun hb1 => ?_)
    refine lf_iload_n d_W_told_4 rfl rfl ?_
    refine gi_if_ne d_W_told_5 (tgt := 12) (by decide) (by omega) (fun hb5 => False.elim (by exact absurd hb5 (by decide))) (fun hb5 => ?_)
    refine lf_iconst d_W_told_8 (v := Int32.ofInt ((0 : Nat) : Int)) rfl ?_
    refine lf_goto d_W_told_9 (tgt := 27) (by decide) ?_
    refine lf_istore_n d_W_told_27 rfl (by decide +kernel) (L2 := [(3, _), (0, _), (1, _), (2, _)]) rfl ?_
    refine lf_iload_n d_W_told_28 rfl rfl ?_
    refine lf_iconst d_W_told_29 (v := Int32.ofInt ((1 : Nat) : Int)) rfl ?_
    refine gi_icmp_eq d_W_told_30 (tgt := 38) (by decide) (by omega) (fun hb30 => False.elim (by exact absurd hb30 (by decide))) (fun hb30 => ?_)
    refine lf_iload_n d_W_told_33 rfl rfl ?_
    refine lf_iconst d_W_told_34 (v := Int32.ofInt ((1 : Nat) : Int)) rfl ?_
    refine gi_icmp_ne d_W_told_35 (tgt := 42) (by decide) (by omega) (fun hb35 => ?_) (fun hb35 => False.elim (by exact absurd hb35 (by decide)))
    refine lf_iload_n d_W_told_42 rfl rfl ?_
    refine gi_if_ne d_W_told_43 (tgt := 54) (by decide) (by omega) (fun hb43 => ?_) (fun hb43 => False.elim (by exact absurd hb43 (by decide)))
    refine lf_iconst d_W_told_54 (v := Int32.ofInt ((2 : Nat) : Int)) rfl ?_
    refine lf_istore d_W_told_55 (by decide +kernel) (L2 := [(4, _), (3, _), (0, _), (1, _), (2, _)]) rfl ?_
    refine lf_iload_n d_W_told_57 rfl rfl ?_
    refine lf_bipush d_W_told_58 (v := Int32.ofInt ((97 : Nat) : Int)) (by decide +kernel) ?_
    refine gi_icmp_eq d_W_told_60 (tgt := 69) (by decide) (by omega) (fun hb60 => False.elim (by exact absurd hb60 (by decide))) (fun hb60 => ?_)
    refine lf_iload_n d_W_told_63 rfl rfl ?_
    refine lf_bipush d_W_told_64 (v := Int32.ofInt ((110 : Nat) : Int)) (by decide +kernel) ?_
    refine gi_icmp_ne d_W_told_66 (tgt := 73) (by decide) (by omega) (fun hb66 => ?_) (fun hb66 => False.elim (by exact absurd hb66 (by decide)))
    refine lf_iload_n d_W_told_73 rfl rfl ?_
    refine lf_bipush d_W_told_74 (v := Int32.ofInt ((111 : Nat) : Int)) (by decide +kernel) ?_
    refine gi_icmp_eq d_W_told_76 (tgt := 85) (by decide) (by omega) (fun hb76 => ?_) (fun hb76 => False.elim (by exact absurd hb76 (by decide)))
    refine lf_iload d_W_told_85 rfl ?_
    refine lf_goto d_W_told_87 (tgt := 117) (by decide) ?_
    refine lf_istore d_W_told_117 (by decide +kernel) (L2 := [(5, _), (4, _), (3, _), (0, _), (1, _), (2, _)]) rfl ?_
    refine lf_iload d_W_told_119 rfl ?_
    refine lf_iconst d_W_told_121 (v := Int32.ofInt ((2 : Nat) : Int)) rfl ?_
    refine gi_icmp_eq d_W_told_122 (tgt := 143) (by decide) (by omega) (fun hb122 => ?_) (fun hb122 => False.elim (by exact absurd hb122 (by decide)))
    refine lf_iload d_W_told_143 rfl ?_
    refine lf_goto d_W_told_145 (tgt := 152) (by decide) ?_
    refine gw_iret d_W_told_152 rfl ?_
    exact ⟨rfl, rfl, rfl, rfl⟩
  · refine lf_iload_n d_W_told_0 rfl rfl ?_
    refine gi_if_eq d_W_told_1 (tgt := 8) (by decide) (by omega) (fun hb1 => False.elim (by exact absurd hb1 (by decide))) (fun hb1 => ?_)
    refine lf_iload_n d_W_told_4 rfl rfl ?_
    refine gi_if_ne d_W_told_5 (tgt := 12) (by decide) (by omega) (fun hb5 => ?_) (fun hb5 => False.elim (by exact absurd hb5 (by decide)))
    refine lf_iload_n d_W_told_12 rfl rfl ?_
    refine lf_iconst d_W_told_13 (v := Int32.ofInt ((1 : Nat) : Int)) rfl ?_
    refine gi_icmp_ne d_W_told_14 (tgt := 26) (by decide) (by omega) (fun hb14 => ?_) (fun hb14 => False.elim (by exact absurd hb14 (by decide)))
    refine lf_iconst d_W_told_26 (v := Int32.ofInt ((2 : Nat) : Int)) rfl ?_
    refine lf_istore_n d_W_told_27 rfl (by decide +kernel) (L2 := [(3, _), (0, _), (1, _), (2, _)]) rfl ?_
    refine lf_iload_n d_W_told_28 rfl rfl ?_
    refine lf_iconst d_W_told_29 (v := Int32.ofInt ((1 : Nat) : Int)) rfl ?_
    refine gi_icmp_eq d_W_told_30 (tgt := 38) (by decide) (by omega) (fun hb30 => False.elim (by exact absurd hb30 (by decide))) (fun hb30 => ?_)
    refine lf_iload_n d_W_told_33 rfl rfl ?_
    refine lf_iconst d_W_told_34 (v := Int32.ofInt ((1 : Nat) : Int)) rfl ?_
    refine gi_icmp_ne d_W_told_35 (tgt := 42) (by decide) (by omega) (fun hb35 => False.elim (by exact absurd hb35 (by decide))) (fun hb35 => ?_)
    refine lf_iconst d_W_told_38 (v := Int32.ofInt ((1 : Nat) : Int)) rfl ?_
    refine lf_goto d_W_told_39 (tgt := 55) (by decide) ?_
    refine lf_istore d_W_told_55 (by decide +kernel) (L2 := [(4, _), (3, _), (0, _), (1, _), (2, _)]) rfl ?_
    refine lf_iload_n d_W_told_57 rfl rfl ?_
    refine lf_bipush d_W_told_58 (v := Int32.ofInt ((97 : Nat) : Int)) (by decide +kernel) ?_
    refine gi_icmp_eq d_W_told_60 (tgt := 69) (by decide) (by omega) (fun hb60 => False.elim (by exact absurd hb60 (by decide))) (fun hb60 => ?_)
    refine lf_iload_n d_W_told_63 rfl rfl ?_
    refine lf_bipush d_W_told_64 (v := Int32.ofInt ((110 : Nat) : Int)) (by decide +kernel) ?_
    refine gi_icmp_ne d_W_told_66 (tgt := 73) (by decide) (by omega) (fun hb66 => ?_) (fun hb66 => False.elim (by exact absurd hb66 (by decide)))
    refine lf_iload_n d_W_told_73 rfl rfl ?_
    refine lf_bipush d_W_told_74 (v := Int32.ofInt ((111 : Nat) : Int)) (by decide +kernel) ?_
    refine gi_icmp_eq d_W_told_76 (tgt := 85) (by decide) (by omega) (fun hb76 => ?_) (fun hb76 => False.elim (by exact absurd hb76 (by decide)))
    refine lf_iload d_W_told_85 rfl ?_
    refine lf_goto d_W_told_87 (tgt := 117) (by decide) ?_
    refine lf_istore d_W_told_117 (by decide +kernel) (L2 := [(5, _), (4, _), (3, _), (0, _), (1, _), (2, _)]) rfl ?_
    refine lf_iload d_W_told_119 rfl ?_
    refine lf_iconst d_W_told_121 (v := Int32.ofInt ((2 : Nat) : Int)) rfl ?_
    refine gi_icmp_eq d_W_told_122 (tgt := 143) (by decide) (by omega) (fun hb122 => False.elim (by exact absurd hb122 (by decide))) (fun hb122 => ?_)
    refine lf_iload_n d_W_told_125 rfl rfl ?_
    refine lf_bipush d_W_told_126 (v := Int32.ofInt ((110 : Nat) : Int)) (by decide +kernel) ?_
    refine gi_icmp_eq d_W_told_128 (tgt := 148) (by decide) (by omega) (fun hb128 => False.elim (by exact absurd hb128 (by decide))) (fun hb128 => ?_)
    refine lf_iload_n d_W_told_131 rfl rfl ?_
    refine lf_bipush d_W_told_132 (v := Int32.ofInt ((114 : Nat) : Int)) (by decide +kernel) ?_
    refine gi_icmp_eq d_W_told_134 (tgt := 148) (by decide) (by omega) (fun hb134 => False.elim (by exact absurd hb134 (by decide))) (fun hb134 => ?_)
    refine lf_iload_n d_W_told_137 rfl rfl ?_
    refine lf_bipush d_W_told_138 (v := Int32.ofInt ((118 : Nat) : Int)) (by decide +kernel) ?_
    refine gi_icmp_eq d_W_told_140 (tgt := 148) (by decide) (by omega) (fun hb140 => False.elim (by exact absurd hb140 (by decide))) (fun hb140 => ?_)
    refine lf_iload d_W_told_143 rfl ?_
    refine lf_goto d_W_told_145 (tgt := 152) (by decide) ?_
    refine gw_iret d_W_told_152 rfl ?_
    exact ⟨rfl, rfl, rfl, rfl⟩
  · refine lf_iload_n d_W_told_0 rfl rfl ?_
    refine gi_if_eq d_W_told_1 (tgt := 8) (by decide) (by omega) (fun hb1 => False.elim (by exact absurd hb1 (by decide))) (fun hb1 => ?_)
    refine lf_iload_n d_W_told_4 rfl rfl ?_
    refine gi_if_ne d_W_told_5 (tgt := 12) (by decide) (by omega) (fun hb5 => ?_) (fun hb5 => False.elim (by exact absurd hb5 (by decide)))
    refine lf_iload_n d_W_told_12 rfl rfl ?_
    refine lf_iconst d_W_told_13 (v := Int32.ofInt ((1 : Nat) : Int)) rfl ?_
    refine gi_icmp_ne d_W_told_14 (tgt := 26) (by decide) (by omega) (fun hb14 => ?_) (fun hb14 => False.elim (by exact absurd hb14 (by decide)))
    refine lf_iconst d_W_told_26 (v := Int32.ofInt ((2 : Nat) : Int)) rfl ?_
    refine lf_istore_n d_W_told_27 rfl (by decide +kernel) (L2 := [(3, _), (0, _), (1, _), (2, _)]) rfl ?_
    refine lf_iload_n d_W_told_28 rfl rfl ?_
    refine lf_iconst d_W_told_29 (v := Int32.ofInt ((1 : Nat) : Int)) rfl ?_
    refine gi_icmp_eq d_W_told_30 (tgt := 38) (by decide) (by omega) (fun hb30 => False.elim (by exact absurd hb30 (by decide))) (fun hb30 => ?_)
    refine lf_iload_n d_W_told_33 rfl rfl ?_
    refine lf_iconst d_W_told_34 (v := Int32.ofInt ((1 : Nat) : Int)) rfl ?_
    refine gi_icmp_ne d_W_told_35 (tgt := 42) (by decide) (by omega) (fun hb35 => ?_) (fun hb35 => False.elim (by exact absurd hb35 (by decide)))
    refine lf_iload_n d_W_told_42 rfl rfl ?_
    refine gi_if_ne d_W_told_43 (tgt := 54) (by decide) (by omega) (fun hb43 => ?_) (fun hb43 => False.elim (by exact absurd hb43 (by decide)))
    refine lf_iconst d_W_told_54 (v := Int32.ofInt ((2 : Nat) : Int)) rfl ?_
    refine lf_istore d_W_told_55 (by decide +kernel) (L2 := [(4, _), (3, _), (0, _), (1, _), (2, _)]) rfl ?_
    refine lf_iload_n d_W_told_57 rfl rfl ?_
    refine lf_bipush d_W_told_58 (v := Int32.ofInt ((97 : Nat) : Int)) (by decide +kernel) ?_
    refine gi_icmp_eq d_W_told_60 (tgt := 69) (by decide) (by omega) (fun hb60 => False.elim (by exact absurd hb60 (by decide))) (fun hb60 => ?_)
    refine lf_iload_n d_W_told_63 rfl rfl ?_
    refine lf_bipush d_W_told_64 (v := Int32.ofInt ((110 : Nat) : Int)) (by decide +kernel) ?_
    refine gi_icmp_ne d_W_told_66 (tgt := 73) (by decide) (by omega) (fun hb66 => ?_) (fun hb66 => False.elim (by exact absurd hb66 (by decide)))
    refine lf_iload_n d_W_told_73 rfl rfl ?_
    refine lf_bipush d_W_told_74 (v := Int32.ofInt ((111 : Nat) : Int)) (by decide +kernel) ?_
    refine gi_icmp_eq d_W_told_76 (tgt := 85) (by decide) (by omega) (fun hb76 => ?_) (fun hb76 => False.elim (by exact absurd hb76 (by decide)))
    refine lf_iload d_W_told_85 rfl ?_
    refine lf_goto d_W_told_87 (tgt := 117) (by decide) ?_
    refine lf_istore d_W_told_117 (by decide +kernel) (L2 := [(5, _), (4, _), (3, _), (0, _), (1, _), (2, _)]) rfl ?_
    refine lf_iload d_W_told_119 rfl ?_
    refine lf_iconst d_W_told_121 (v := Int32.ofInt ((2 : Nat) : Int)) rfl ?_
    refine gi_icmp_eq d_W_told_122 (tgt := 143) (by decide) (by omega) (fun hb122 => ?_) (fun hb122 => False.elim (by exact absurd hb122 (by decide)))
    refine lf_iload d_W_told_143 rfl ?_
    refine lf_goto d_W_told_145 (tgt := 152) (by decide) ?_
    refine gw_iret d_W_told_152 rfl ?_
    exact ⟨rfl, rfl, rfl, rfl⟩
theorem w_told114 (hx : HX X L9 xs) {a b : Nat} (ha : a ≤ 2) (hb : b ≤ 2) : EVp TT cl6 X mi_W_told 0 [.int (Int32.ofInt ((114 : Nat) : Int)), .int (Int32.ofInt ((a : Nat) : Int)), .int (Int32.ofInt ((b : Nat) : Int))] sh I J (.int (Int32.ofInt ((tldN 114 a b : Nat) : Int))) := by
  have h9 : (a = 0 ∨ a = 1 ∨ a = 2) ∧ (b = 0 ∨ b = 1 ∨ b = 2) := by omega
  obtain ⟨h1, h2⟩ := h9
  refine gw_enter (hx_ok hx) (by decide +kernel) (Nat.le_of_ble_eq_true rfl) (L := [(0, _), (1, _), (2, _)]) rfl ?_
  rcases h1 with rfl | rfl | rfl <;> rcases h2 with rfl | rfl | rfl
  · refine lf_iload_n d_W_told_0 rfl rfl ?_
    refine gi_if_eq d_W_told_1 (tgt := 8) (by decide) (by omega) (fun hb1 => ?_) (fun hb1 => False.elim (by exact absurd hb1 (by decide)))
    refine lf_iconst d_W_told_8 (v := Int32.ofInt ((0 : Nat) : Int)) rfl ?_
    refine lf_goto d_W_told_9 (tgt := 27) (by decide) ?_
    refine lf_istore_n d_W_told_27 rfl (by decide +kernel) (L2 := [(3, _), (0, _), (1, _), (2, _)]) rfl ?_
    refine lf_iload_n d_W_told_28 rfl rfl ?_
    refine lf_iconst d_W_told_29 (v := Int32.ofInt ((1 : Nat) : Int)) rfl ?_
    refine gi_icmp_eq d_W_told_30 (tgt := 38) (by decide) (by omega) (fun hb30 => False.elim (by exact absurd hb30 (by decide))) (fun hb30 => ?_)
    refine lf_iload_n d_W_told_33 rfl rfl ?_
    refine lf_iconst d_W_told_34 (v := Int32.ofInt ((1 : Nat) : Int)) rfl ?_
    refine gi_icmp_ne d_W_told_35 (tgt := 42) (by decide) (by omega) (fun hb35 => ?_) (fun hb35 => False.elim (by exact absurd hb35 (by decide)))
    refine lf_iload_n d_W_told_42 rfl rfl ?_
    refine gi_if_ne d_W_told_43 (tgt := 54) (by decide) (by omega) (fun hb43 => False.elim (by exact absurd hb43 (by decide))) (fun hb43 => ?_)
    refine lf_iload_n d_W_told_46 rfl rfl ?_
    refine gi_if_ne d_W_told_47 (tgt := 54) (by decide) (by omega) (fun hb47 => False.elim (by exact absurd hb47 (by decide))) (fun hb47 => ?_)
    refine lf_iconst d_W_told_50 (v := Int32.ofInt ((0 : Nat) : Int)) rfl ?_
    refine lf_goto d_W_told_51 (tgt := 55) (by decide) ?_
    refine lf_istore d_W_told_55 (by decide +kernel) (L2 := [(4, _), (3, _), (0, _), (1, _), (2, _)]) rfl ?_
    refine lf_iload_n d_W_told_57 rfl rfl ?_
    refine lf_bipush d_W_told_58 (v := Int32.ofInt ((97 : Nat) : Int)) (by decide +kernel) ?_
    refine gi_icmp_eq d_W_told_60 (tgt := 69) (by decide) (by omega) (fun hb60 => False.elim (by exact absurd hb60 (by decide))) (fun hb60 => ?_)
    refine lf_iload_n d_W_told_63 rfl rfl ?_
    refine lf_bipush d_W_told_64 (v := Int32.ofInt ((110 : Nat) : Int)) (by decide +kernel) ?_
    refine gi_icmp_ne d_W_told_66 (tgt := 73) (by decide) (by omega) (fun hb66 => ?_) (fun hb66 => False.elim (by exact absurd hb66 (by decide)))
    refine lf_iload_n d_W_told_73 rfl rfl ?_
    refine lf_bipush d_W_told_74 (v := Int32.ofInt ((111 : Nat) : Int)) (by decide +kernel) ?_
    refine gi_icmp_eq d_W_told_76 (tgt := 85) (by decide) (by omega) (fun hb76 => False.elim (by exact absurd hb76 (by decide))) (fun hb76 => ?_)
    refine lf_iload_n d_W_told_79 rfl rfl ?_
    refine lf_bipush d_W_told_80 (v := Int32.ofInt ((114 : Nat) : Int)) (by decide +kernel) ?_
    refine gi_icmp_ne d_W_told_82 (tgt := 90) (by decide) (by omega) (fun hb82 => False.elim (by exact absurd hb82 (by decide))) (fun hb82 => ?_)
    refine lf_iload d_W_told_85 rfl ?_
    refine lf_goto d_W_told_87 (tgt := 117) (by decide) ?_
    refine lf_istore d_W_told_117 (by decide +kernel) (L2 := [(5, _), (4, _), (3, _), (0, _), (1, _), (2, _)]) rfl ?_
    refine lf_iload d_W_told_119 rfl ?_
    refine lf_iconst d_W_told_121 (v := Int32.ofInt ((2 : Nat) : Int)) rfl ?_
    refine gi_icmp_eq d_W_told_122 (tgt := 143) (by decide) (by omega) (fun hb122 => False.elim (by exact absurd hb122 (by decide))) (fun hb122 => ?_)
    refine lf_iload_n d_W_told_125 rfl rfl ?_
    refine lf_bipush d_W_told_126 (v := Int32.ofInt ((110 : Nat) : Int)) (by decide +kernel) ?_
    refine gi_icmp_eq d_W_told_128 (tgt := 148) (by decide) (by omega) (fun hb128 => False.elim (by exact absurd hb128 (by decide))) (fun hb128 => ?_)
    refine lf_iload_n d_W_told_131 rfl rfl ?_
    refine lf_bipush d_W_told_132 (v := Int32.ofInt ((114 : Nat) : Int)) (by decide +kernel) ?_
    refine gi_icmp_eq d_W_told_134 (tgt := 148) (by decide) (by omega) (fun hb134 => ?_) (fun hb134 => False.elim (by exact absurd hb134 (by decide)))
    refine lf_iconst d_W_told_148 (v := Int32.ofInt ((1 : Nat) : Int)) rfl ?_
    refine lf_iload d_W_told_149 rfl ?_
    refine gi_isubN (a := 1) (b := 0) d_W_told_151 (by omega) ?_
    refine gw_iret d_W_told_152 rfl ?_
    exact ⟨rfl, rfl, rfl, rfl⟩
  · refine lf_iload_n d_W_told_0 rfl rfl ?_
    refine gi_if_eq d_W_told_1 (tgt := 8) (by decide) (by omega) (fun hb1 => ?_) (fun hb1 => False.elim (by exact absurd hb1 (by decide)))
    refine lf_iconst d_W_told_8 (v := Int32.ofInt ((0 : Nat) : Int)) rfl ?_
    refine lf_goto d_W_told_9 (tgt := 27) (by decide) ?_
    refine lf_istore_n d_W_told_27 rfl (by decide +kernel) (L2 := [(3, _), (0, _), (1, _), (2, _)]) rfl ?_
    refine lf_iload_n d_W_told_28 rfl rfl ?_
    refine lf_iconst d_W_told_29 (v := Int32.ofInt ((1 : Nat) : Int)) rfl ?_
    refine gi_icmp_eq d_W_told_30 (tgt := 38) (by decide) (by omega) (fun hb30 => False.elim (by exact absurd hb30 (by decide))) (fun hb30 => ?_)
    refine lf_iload_n d_W_told_33 rfl rfl ?_
    refine lf_iconst d_W_told_34 (v := Int32.ofInt ((1 : Nat) : Int)) rfl ?_
    refine gi_icmp_ne d_W_told_35 (tgt := 42) (by decide) (by omega) (fun hb35 => False.elim (by exact absurd hb35 (by decide))) (fun hb35 => ?_)
    refine lf_iconst d_W_told_38 (v := Int32.ofInt ((1 : Nat) : Int)) rfl ?_
    refine lf_goto d_W_told_39 (tgt := 55) (by decide) ?_
    refine lf_istore d_W_told_55 (by decide +kernel) (L2 := [(4, _), (3, _), (0, _), (1, _), (2, _)]) rfl ?_
    refine lf_iload_n d_W_told_57 rfl rfl ?_
    refine lf_bipush d_W_told_58 (v := Int32.ofInt ((97 : Nat) : Int)) (by decide +kernel) ?_
    refine gi_icmp_eq d_W_told_60 (tgt := 69) (by decide) (by omega) (fun hb60 => False.elim (by exact absurd hb60 (by decide))) (fun hb60 => ?_)
    refine lf_iload_n d_W_told_63 rfl rfl ?_
    refine lf_bipush d_W_told_64 (v := Int32.ofInt ((110 : Nat) : Int)) (by decide +kernel) ?_
    refine gi_icmp_ne d_W_told_66 (tgt := 73) (by decide) (by omega) (fun hb66 => ?_) (fun hb66 => False.elim (by exact absurd hb66 (by decide)))
    refine lf_iload_n d_W_told_73 rfl rfl ?_
    refine lf_bipush d_W_told_74 (v := Int32.ofInt ((111 : Nat) : Int)) (by decide +kernel) ?_
    refine gi_icmp_eq d_W_told_76 (tgt := 85) (by decide) (by omega) (fun hb76 => False.elim (by exact absurd hb76 (by decide))) (fun hb76 => ?_)
    refine lf_iload_n d_W_told_79 rfl rfl ?_
    refine lf_bipush d_W_told_80 (v := Int32.ofInt ((114 : Nat) : Int)) (by decide +kernel) ?_
    refine gi_icmp_ne d_W_told_82 (tgt := 90) (by decide) (by omega) (fun hb82 => False.elim (by exact absurd hb82 (by decide))) (fun hb82 => ?_)
    refine lf_iload d_W_told_85 rfl ?_
    refine lf_goto d_W_told_87 (tgt := 117) (by decide) ?_
    refine lf_istore d_W_told_117 (by decide +kernel) (L2 := [(5, _), (4, _), (3, _), (0, _), (1, _), (2, _)]) rfl ?_
    refine lf_iload d_W_told_119 rfl ?_
    refine lf_iconst d_W_told_121 (v := Int32.ofInt ((2 : Nat) : Int)) rfl ?_
    refine gi_icmp_eq d_W_told_122 (tgt := 143) (by decide) (by omega) (fun hb122 => False.elim (by exact absurd hb122 (by decide))) (fun hb122 => ?_)
    refine lf_iload_n d_W_told_125 rfl rfl ?_
    refine lf_bipush d_W_told_126 (v := Int32.ofInt ((110 : Nat) : Int)) (by decide +kernel) ?_
    refine gi_icmp_eq d_W_told_128 (tgt := 148) (by decide) (by omega) (fun hb128 => False.elim (by exact absurd hb128 (by decide))) (fun hb128 => ?_)
    refine lf_iload_n d_W_told_131 rfl rfl ?_
    refine lf_bipush d_W_told_132 (v := Int32.ofInt ((114 : Nat) : Int)) (by decide +kernel) ?_
    refine gi_icmp_eq d_W_told_134 (tgt := 148) (by decide) (by omega) (fun hb134 => ?_) (fun hb134 => False.elim (by exact absurd hb134 (by decide)))
    refine lf_iconst d_W_told_148 (v := Int32.ofInt ((1 : Nat) : Int)) rfl ?_
    refine lf_iload d_W_told_149 rfl ?_
    refine gi_isubN (a := 1) (b := 1) d_W_told_151 (by omega) ?_
    refine gw_iret d_W_told_152 rfl ?_
    exact ⟨rfl, rfl, rfl, rfl⟩
  · refine lf_iload_n d_W_told_0 rfl rfl ?_
    refine gi_if_eq d_W_told_1 (tgt := 8) (by decide) (by omega) (fun hb1 => ?_) (fun hb1 => False.elim (by exact absurd hb1 (by decide)))
    refine lf_iconst d_W_told_8 (v := Int32.ofInt ((0 : Nat) : Int)) rfl ?_
    refine lf_goto d_W_told_9 (tgt := 27) (by decide) ?_
    refine lf_istore_n d_W_told_27 rfl (by decide +kernel) (L2 := [(3, _), (0, _), (1, _), (2, _)]) rfl ?_
    refine lf_iload_n d_W_told_28 rfl rfl ?_
    refine lf_iconst d_W_told_29 (v := Int32.ofInt ((1 : Nat) : Int)) rfl ?_
    refine gi_icmp_eq d_W_told_30 (tgt := 38) (by decide) (by omega) (fun hb30 => False.elim (by exact absurd hb30 (by decide))) (fun hb30 => ?_)
    refine lf_iload_n d_W_told_33 rfl rfl ?_
    refine lf_iconst d_W_told_34 (v := Int32.ofInt ((1 : Nat) : Int)) rfl ?_
    refine gi_icmp_ne d_W_told_35 (tgt := 42) (by decide) (by omega) (fun hb35 => ?_) (fun hb35 => False.elim (by exact absurd hb35 (by decide)))
    refine lf_iload_n d_W_told_42 rfl rfl ?_
    refine gi_if_ne d_W_told_43 (tgt := 54) (by decide) (by omega) (fun hb43 => False.elim (by exact absurd hb43 (by decide))) (fun hb43 => ?_)
    refine lf_iload_n d_W_told_46 rfl rfl ?_
    refine gi_if_ne d_W_told_47 (tgt := 54) (by decide) (by omega) (fun hb47 => ?_) (fun hb47 => False.elim (by exact absurd hb47 (by decide)))
    refine lf_iconst d_W_told_54 (v := Int32.ofInt ((2 : Nat) : Int)) rfl ?_
    refine lf_istore d_W_told_55 (by decide +kernel) (L2 := [(4, _), (3, _), (0, _), (1, _), (2, _)]) rfl ?_
    refine lf_iload_n d_W_told_57 rfl rfl ?_
    refine lf_bipush d_W_told_58 (v := Int32.ofInt ((97 : Nat) : Int)) (by decide +kernel) ?_
    refine gi_icmp_eq d_W_told_60 (tgt := 69) (by decide) (by omega) (fun hb60 => False.elim (by exact absurd hb60 (by decide))) (fun hb60 => ?_)
    refine lf_iload_n d_W_told_63 rfl rfl ?_
    refine lf_bipush d_W_told_64 (v := Int32.ofInt ((110 : Nat) : Int)) (by decide +kernel) ?_
    refine gi_icmp_ne d_W_told_66 (tgt := 73) (by decide) (by omega) (fun hb66 => ?_) (fun hb66 => False.elim (by exact absurd hb66 (by decide)))
    refine lf_iload_n d_W_told_73 rfl rfl ?_
    refine lf_bipush d_W_told_74 (v := Int32.ofInt ((111 : Nat) : Int)) (by decide +kernel) ?_
    refine gi_icmp_eq d_W_told_76 (tgt := 85) (by decide) (by omega) (fun hb76 => False.elim (by exact absurd hb76 (by decide))) (fun hb76 => ?_)
    refine lf_iload_n d_W_told_79 rfl rfl ?_
    refine lf_bipush d_W_told_80 (v := Int32.ofInt ((114 : Nat) : Int)) (by decide +kernel) ?_
    refine gi_icmp_ne d_W_told_82 (tgt := 90) (by decide) (by omega) (fun hb82 => False.elim (by exact absurd hb82 (by decide))) (fun hb82 => ?_)
    refine lf_iload d_W_told_85 rfl ?_
    refine lf_goto d_W_told_87 (tgt := 117) (by decide) ?_
    refine lf_istore d_W_told_117 (by decide +kernel) (L2 := [(5, _), (4, _), (3, _), (0, _), (1, _), (2, _)]) rfl ?_
    refine lf_iload d_W_told_119 rfl ?_
    refine lf_iconst d_W_told_121 (v := Int32.ofInt ((2 : Nat) : Int)) rfl ?_
    refine gi_icmp_eq d_W_told_122 (tgt := 143) (by decide) (by omega) (fun hb122 => ?_) (fun hb122 => False.elim (by exact absurd hb122 (by decide)))
    refine lf_iload d_W_told_143 rfl ?_
    refine lf_goto d_W_told_145 (tgt := 152) (by decide) ?_
    refine gw_iret d_W_told_152 rfl ?_
    exact ⟨rfl, rfl, rfl, rfl⟩
  · refine lf_iload_n d_W_told_0 rfl rfl ?_
    refine gi_if_eq d_W_told_1 (tgt := 8) (by decide) (by omega) (fun hb1 => False.elim (by exact absurd hb1 (by decide))) (fun hb1 => ?_)
    refine lf_iload_n d_W_told_4 rfl rfl ?_
    refine gi_if_ne d_W_told_5 (tgt := 12) (by decide) (by omega) (fun hb5 => False.elim (by exact absurd hb5 (by decide))) (fun hb5 => ?_)
    refine lf_iconst d_W_told_8 (v := Int32.ofInt ((0 : Nat) : Int)) rfl ?_
    refine lf_goto d_W_told_9 (tgt := 27) (by decide) ?_
    refine lf_istore_n d_W_told_27 rfl (by decide +kernel) (L2 := [(3, _), (0, _), (1, _), (2, _)]) rfl ?_
    refine lf_iload_n d_W_told_28 rfl rfl ?_
    refine lf_iconst d_W_told_29 (v := Int32.ofInt ((1 : Nat) : Int)) rfl ?_
    refine gi_icmp_eq d_W_told_30 (tgt := 38) (by decide) (by omega) (fun hb30 => ?_) (fun hb30 => False.elim (by exact absurd hb30 (by decide)))
    refine lf_iconst d_W_told_38 (v := Int32.ofInt ((1 : Nat) : Int)) rfl ?_
    refine lf_goto d_W_told_39 (tgt := 55) (by decide) ?_
    refine lf_istore d_W_told_55 (by decide +kernel) (L2 := [(4, _), (3, _), (0, _), (1, _), (2, _)]) rfl ?_
    refine lf_iload_n d_W_told_57 rfl rfl ?_
    refine lf_bipush d_W_told_58 (v := Int32.ofInt ((97 : Nat) : Int)) (by decide +kernel) ?_
    refine gi_icmp_eq d_W_told_60 (tgt := 69) (by decide) (by omega) (fun hb60 => False.elim (by exact absurd hb60 (by decide))) (fun hb60 => ?_)
    refine lf_iload_n d_W_told_63 rfl rfl ?_
    refine lf_bipush d_W_told_64 (v := Int32.ofInt ((110 : Nat) : Int)) (by decide +kernel) ?_
    refine gi_icmp_ne d_W_told_66 (tgt := 73) (by decide) (by omega) (fun hb66 => ?_) (fun hb66 => False.elim (by exact absurd hb66 (by decide)))
    refine lf_iload_n d_W_told_73 rfl rfl ?_
    refine lf_bipush d_W_told_74 (v := Int32.ofInt ((111 : Nat) : Int)) (by decide +kernel) ?_
    refine gi_icmp_eq d_W_told_76 (tgt := 85) (by decide) (by omega) (fun hb76 => False.elim (by exact absurd hb76 (by decide))) (fun hb76 => ?_)
    refine lf_iload_n d_W_told_79 rfl rfl ?_
    refine lf_bipush d_W_told_80 (v := Int32.ofInt ((114 : Nat) : Int)) (by decide +kernel) ?_
    refine gi_icmp_ne d_W_told_82 (tgt := 90) (by decide) (by omega) (fun hb82 => False.elim (by exact absurd hb82 (by decide))) (fun hb82 => ?_)
    refine lf_iload d_W_told_85 rfl ?_
    refine lf_goto d_W_told_87 (tgt := 117) (by decide) ?_
    refine lf_istore d_W_told_117 (by decide +kernel) (L2 := [(5, _), (4, _), (3, _), (0, _), (1, _), (2, _)]) rfl ?_
    refine lf_iload d_W_told_119 rfl ?_
    refine lf_iconst d_W_told_121 (v := Int32.ofInt ((2 : Nat) : Int)) rfl ?_
    refine gi_icmp_eq d_W_told_122 (tgt := 143) (by decide) (by omega) (fun hb122 => False.elim (by exact absurd hb122 (by decide))) (fun hb122 => ?_)
    refine lf_iload_n d_W_told_125 rfl rfl ?_
    refine lf_bipush d_W_told_126 (v := Int32.ofInt ((110 : Nat) : Int)) (by decide +kernel) ?_
    refine gi_icmp_eq d_W_told_128 (tgt := 148) (by decide) (by omega) (fun hb128 => False.elim (by exact absurd hb128 (by decide))) (fun hb128 => ?_)
    refine lf_iload_n d_W_told_131 rfl rfl ?_
    refine lf_bipush d_W_told_132 (v := Int32.ofInt ((114 : Nat) : Int)) (by decide +kernel) ?_
    refine gi_icmp_eq d_W_told_134 (tgt := 148) (by decide) (by omega) (fun hb134 => ?_) (fun hb134 => False.elim (by exact absurd hb134 (by decide)))
    refine lf_iconst d_W_told_148 (v := Int32.ofInt ((1 : Nat) : Int)) rfl ?_
    refine lf_iload d_W_told_149 rfl ?_
    refine gi_isubN (a := 1) (b := 1) d_W_told_151 (by omega) ?_
    refine gw_iret d_W_told_152 rfl ?_
    exact ⟨rfl, rfl, rfl, rfl⟩
  · refine lf_iload_n d_W_told_0 rfl rfl ?_
    refine gi_if_eq d_W_told_1 (tgt := 8) (by decide) (by omega) (fun hb1 => False.elim (by exact absurd hb1 (by decide))) (fun hb1 => ?_)
    refine lf_iload_n d_W_told_4 rfl rfl ?_
    refine gi_if_ne d_W_told_5 (tgt := 12) (by decide) (by omega) (fun hb5 => ?_) (fun hb5 => False.elim (by exact absurd hb5 (by decide)))
    refine lf_iload_n d_W_told_12 rfl rfl ?_
    refine lf_iconst d_W_told_13 (v := Int32.ofInt ((1 : Nat) : Int)) rfl ?_
    refine gi_icmp_ne d_W_told_14 (tgt := 26) (by decide) (by omega) (fun hb14 => False.elim (by exact absurd hb14 (by decide))) (fun hb14 => ?_)
    refine lf_iload_n d_W_told_17 rfl rfl ?_
    refine lf_iconst d_W_told_18 (v := Int32.ofInt ((1 : Nat) : Int)) rfl ?_
    refine gi_icmp_ne d_W_told_19 (tgt := 26) (by decide) (by omega) (fun hb19 => False.elim (by exact absurd hb19 (by decide))) (fun hb19 => ?_)
    refine lf_iconst d_W_told_22 (v := Int32.ofInt ((1 : Nat) : Int)) rfl ?_
    refine lf_goto d_W_told_23 (tgt := 27) (by decide) ?_
    refine lf_istore_n d_W_told_27 rfl (by decide +kernel) (L2 := [(3, _), (0, _), (1, _), (2, _)]) rfl ?_
    refine lf_iload_n d_W_told_28 rfl rfl ?_
    refine lf_iconst d_W_told_29 (v := Int32.ofInt ((1 : Nat) : Int)) rfl ?_
    refine gi_icmp_eq d_W_told_30 (tgt := 38) (by decide) (by omega) (fun hb30 => ?_) (fun hb30 => False.elim (by exact absurd hb30 (by decide)))
    refine lf_iconst d_W_told_38 (v := Int32.ofInt ((1 : Nat) : Int)) rfl ?_
    refine lf_goto d_W_told_39 (tgt := 55) (by decide) ?_
    refine lf_istore d_W_told_55 (by decide +kernel) (L2 := [(4, _), (3, _), (0, _), (1, _), (2, _)]) rfl ?_
    refine lf_iload_n d_W_told_57 rfl rfl ?_
    refine lf_bipush d_W_told_58 (v := Int32.ofInt ((97 : Nat) : Int)) (by decide +kernel) ?_
    refine gi_icmp_eq d_W_told_60 (tgt := 69) (by decide) (by omega) (fun hb60 => False.elim (by exact absurd hb60 (by decide))) (fun hb60 => ?_)
    refine lf_iload_n d_W_told_63 rfl rfl ?_
    refine lf_bipush d_W_told_64 (v := Int32.ofInt ((110 : Nat) : Int)) (by decide +kernel) ?_
    refine gi_icmp_ne d_W_told_66 (tgt := 73) (by decide) (by omega) (fun hb66 => ?_) (fun hb66 => False.elim (by exact absurd hb66 (by decide)))
    refine lf_iload_n d_W_told_73 rfl rfl ?_
    refine lf_bipush d_W_told_74 (v := Int32.ofInt ((111 : Nat) : Int)) (by decide +kernel) ?_
    refine gi_icmp_eq d_W_told_76 (tgt := 85) (by decide) (by omega) (fun hb76 => False.elim (by exact absurd hb76 (by decide))) (fun hb76 => ?_)
    refine lf_iload_n d_W_told_79 rfl rfl ?_
    refine lf_bipush d_W_told_80 (v := Int32.ofInt ((114 : Nat) : Int)) (by decide +kernel) ?_
    refine gi_icmp_ne d_W_told_82 (tgt := 90) (by decide) (by omega) (fun hb82 => False.elim (by exact absurd hb82 (by decide))) (fun hb82 => ?_)
    refine lf_iload d_W_told_85 rfl ?_
    refine lf_goto d_W_told_87 (tgt := 117) (by decide) ?_
    refine lf_istore d_W_told_117 (by decide +kernel) (L2 := [(5, _), (4, _), (3, _), (0, _), (1, _), (2, _)]) rfl ?_
    refine lf_iload d_W_told_119 rfl ?_
    refine lf_iconst d_W_told_121 (v := Int32.ofInt ((2 : Nat) : Int)) rfl ?_
    refine gi_icmp_eq d_W_told_122 (tgt := 143) (by decide) (by omega) (fun hb122 => False.elim (by exact absurd hb122 (by decide))) (fun hb122 => ?_)
    refine lf_iload_n d_W_told_125 rfl rfl ?_
    refine lf_bipush d_W_told_126 (v := Int32.ofInt ((110 : Nat) : Int)) (by decide +kernel) ?_
    refine gi_icmp_eq d_W_told_128 (tgt := 148) (by decide) (by omega) (fun hb128 => False.elim (by exact absurd hb128 (by decide))) (fun hb128 => ?_)
    refine lf_iload_n d_W_told_131 rfl rfl ?_
    refine lf_bipush d_W_told_132 (v := Int32.ofInt ((114 : Nat) : Int)) (by decide +kernel) ?_
    refine gi_icmp_eq d_W_told_134 (tgt := 148) (by decide) (by omega) (fun hb134 => ?_) (fun hb134 => False.elim (by exact absurd hb134 (by decide)))
    refine lf_iconst d_W_told_148 (v := Int32.ofInt ((1 : Nat) : Int)) rfl ?_
    refine lf_iload d_W_told_149 rfl ?_
    refine gi_isubN (a := 1) (b := 1) d_W_told_151 (by omega) ?_
    refine gw_iret d_W_told_152 rfl ?_
    exact ⟨rfl, rfl, rfl, rfl⟩
  · refine lf_iload_n d_W_told_0 rfl rfl ?_
    refine gi_if_eq d_W_told_1 (tgt := 8) (by decide) (by omega) (fun hb1 => False.elim (by exact absurd hb1 (by decide))) (fun hb1 => ?_)
    refine lf_iload_n d_W_told_4 rfl rfl ?_
    refine gi_if_ne d_W_told_5 (tgt := 12) (by decide) (by omega) (fun hb5 => ?_) (fun hb5 => False.elim (by exact absurd hb5 (by decide)))
    refine lf_iload_n d_W_told_12 rfl rfl ?_
    refine lf_iconst d_W_told_13 (v := Int32.ofInt ((1 : Nat) : Int)) rfl ?_
    refine gi_icmp_ne d_W_told_14 (tgt := 26) (by decide) (by omega) (fun hb14 => False.elim (by exact absurd hb14 (by decide))) (fun hb14 => ?_)
    refine lf_iload_n d_W_told_17 rfl rfl ?_
    refine lf_iconst d_W_told_18 (v := Int32.ofInt ((1 : Nat) : Int)) rfl ?_
    refine gi_icmp_ne d_W_told_19 (tgt := 26) (by decide) (by omega) (fun hb19 => ?_) (fun hb19 => False.elim (by exact absurd hb19 (by decide)))
    refine lf_iconst d_W_told_26 (v := Int32.ofInt ((2 : Nat) : Int)) rfl ?_
    refine lf_istore_n d_W_told_27 rfl (by decide +kernel) (L2 := [(3, _), (0, _), (1, _), (2, _)]) rfl ?_
    refine lf_iload_n d_W_told_28 rfl rfl ?_
    refine lf_iconst d_W_told_29 (v := Int32.ofInt ((1 : Nat) : Int)) rfl ?_
    refine gi_icmp_eq d_W_told_30 (tgt := 38) (by decide) (by omega) (fun hb30 => ?_) (fun hb30 => False.elim (by exact absurd hb30 (by decide)))
    refine lf_iconst d_W_told_38 (v := Int32.ofInt ((1 : Nat) : Int)) rfl ?_
    refine lf_goto d_W_told_39 (tgt := 55) (by decide) ?_
    refine lf_istore d_W_told_55 (by decide +kernel) (L2 := [(4, _), (3, _), (0, _), (1, _), (2, _)]) rfl ?_
    refine lf_iload_n d_W_told_57 rfl rfl ?_
    refine lf_bipush d_W_told_58 (v := Int32.ofInt ((97 : Nat) : Int)) (by decide +kernel) ?_
    refine gi_icmp_eq d_W_told_60 (tgt := 69) (by decide) (by omega) (fun hb60 => False.elim (by exact absurd hb60 (by decide))) (fun hb60 => ?_)
    refine lf_iload_n d_W_told_63 rfl rfl ?_
    refine lf_bipush d_W_told_64 (v := Int32.ofInt ((110 : Nat) : Int)) (by decide +kernel) ?_
    refine gi_icmp_ne d_W_told_66 (tgt := 73) (by decide) (by omega) (fun hb66 => ?_) (fun hb66 => False.elim (by exact absurd hb66 (by decide)))
    refine lf_iload_n d_W_told_73 rfl rfl ?_
    refine lf_bipush d_W_told_74 (v := Int32.ofInt ((111 : Nat) : Int)) (by decide +kernel) ?_
    refine gi_icmp_eq d_W_told_76 (tgt := 85) (by decide) (by omega) (fun hb76 => False.elim (by exact absurd hb76 (by decide))) (fun hb76 => ?_)
    refine lf_iload_n d_W_told_79 rfl rfl ?_
    refine lf_bipush d_W_told_80 (v := Int32.ofInt ((114 : Nat) : Int)) (by decide +kernel) ?_
    refine gi_icmp_ne d_W_told_82 (tgt := 90) (by decide) (by omega) (fun hb82 => False.elim (by exact absurd hb82 (by decide))) (fun hb82 => ?_)
    refine lf_iload d_W_told_85 rfl ?_
    refine lf_goto d_W_told_87 (tgt := 117) (by decide) ?_
    refine lf_istore d_W_told_117 (by decide +kernel) (L2 := [(5, _), (4, _), (3, _), (0, _), (1, _), (2, _)]) rfl ?_
    refine lf_iload d_W_told_119 rfl ?_
    refine lf_iconst d_W_told_121 (v := Int32.ofInt ((2 : Nat) : Int)) rfl ?_
    refine gi_icmp_eq d_W_told_122 (tgt := 143) (by decide) (by omega) (fun hb122 => False.elim (by exact absurd hb122 (by decide))) (fun hb122 => ?_)
    refine lf_iload_n d_W_told_125 rfl rfl ?_
    refine lf_bipush d_W_told_126 (v := Int32.ofInt ((110 : Nat) : Int)) (by decide +kernel) ?_
    refine gi_icmp_eq d_W_told_128 (tgt := 148) (by decide) (by omega) (fun hb128 => False.elim (by exact absurd hb128 (by decide))) (fun hb128 => ?_)
    refine lf_iload_n d_W_told_131 rfl rfl ?_
    refine lf_bipush d_W_told_132 (v := Int32.ofInt ((114 : Nat) : Int)) (by decide +kernel) ?_
    refine gi_icmp_eq d_W_told_134 (tgt := 148) (by decide) (by omega) (fun hb134 => ?_) (fun hb134 => False.elim (by exact absurd hb134 (by decide)))
    refine lf_iconst d_W_told_148 (v := Int32.ofInt ((1 : Nat) : Int)) rfl ?_
    refine lf_iload d_W_told_149 rfl ?_
    refine gi_isubN (a := 1) (b := 1) d_W_told_151 (by omega) ?_
    refine gw_iret d_W_told_152 rfl ?_
    exact ⟨rfl, rfl, rfl, rfl⟩
  · refine lf_iload_n d_W_told_0 rfl rfl ?_
    refine gi_if_eq d_W_told_1 (tgt := 8) (by decide) (by omega) (fun hb1 => False.elim (by exact absurd hb1 (by decide))) (fun hb1 => ?_)
    refine lf_iload_n d_W_told_4 rfl rfl ?_
    refine gi_if_ne d_W_told_5 (tgt := 12) (by decide) (by omega) (fun hb5 => False.elim (by exact absurd hb5 (by decide))) (fun hb5 => ?_)
    refine lf_iconst d_W_told_8 (v := Int32.ofInt ((0 : Nat) : Int)) rfl ?_
    refine lf_goto d_W_told_9 (tgt := 27) (by decide) ?_
    refine lf_istore_n d_W_told_27 rfl (by decide +kernel) (L2 := [(3, _), (0, _), (1, _), (2, _)]) rfl ?_
    refine lf_iload_n d_W_told_28 rfl rfl ?_
    refine lf_iconst d_W_told_29 (v := Int32.ofInt ((1 : Nat) : Int)) rfl ?_
    refine gi_icmp_eq d_W_told_30 (tgt := 38) (by decide) (by omega) (fun hb30 => False.elim (by exact absurd hb30 (by decide))) (fun hb30 => ?_)
    refine lf_iload_n d_W_told_33 rfl rfl ?_
    refine lf_iconst d_W_told_34 (v := Int32.ofInt ((1 : Nat) : Int)) rfl ?_
    refine gi_icmp_ne d_W_told_35 (tgt := 42) (by decide) (by omega) (fun hb35 => ?_) (fun hb35 => False.elim (by exact absurd hb35 (by decide)))
    refine lf_iload_n d_W_told_42 rfl rfl ?_
    refine gi_if_ne d_W_told_43 (tgt := 54) (by decide) (by omega) (fun hb43 => ?_) (fun hb43 => False.elim (by exact absurd hb43 (by decide)))
    refine lf_iconst d_W_told_54 (v := Int32.ofInt ((2 : Nat) : Int)) rfl ?_
    refine lf_istore d_W_told_55 (by decide +kernel) (L2 := [(4, _), (3, _), (0, _), (1, _), (2, _)]) rfl ?_
    refine lf_iload_n d_W_told_57 rfl rfl ?_
    refine lf_bipush d_W_told_58 (v := Int32.ofInt ((97 : Nat) : Int)) (by decide +kernel) ?_
    refine gi_icmp_eq d_W_told_60 (tgt := 69) (by decide) (by omega) (fun hb60 => False.elim (by exact absurd hb60 (by decide))) (fun hb60 => ?_)
    refine lf_iload_n d_W_told_63 rfl rfl ?_
    refine lf_bipush d_W_told_64 (v := Int32.ofInt ((110 : Nat) : Int)) (by decide +kernel) ?_
    refine gi_icmp_ne d_W_told_66 (tgt := 73) (by decide) (by omega) (fun hb66 => ?_) (fun hb66 => False.elim (by exact absurd hb66 (by decide)))
    refine lf_iload_n d_W_told_73 rfl rfl ?_
    refine lf_bipush d_W_told_74 (v := Int32.ofInt ((111 : Nat) : Int)) (by decide +kernel) ?_
    refine gi_icmp_eq d_W_told_76 (tgt := 85) (by decide) (by omega) (fun hb76 => False.elim (by exact absurd hb76 (by decide))) (fun hb76 => ?_)
    refine lf_iload_n d_W_told_79 rfl rfl ?_
    refine lf_bipush d_W_told_80 (v := Int32.ofInt ((114 : Nat) : Int)) (by decide +kernel) ?_
    refine gi_icmp_ne d_W_told_82 (tgt := 90) (by decide) (by omega) (fun hb82 => False.elim (by exact absurd hb82 (by decide))) (fun hb82 => ?_)
    refine lf_iload d_W_told_85 rfl ?_
    refine lf_goto d_W_told_87 (tgt := 117) (by decide) ?_
    refine lf_istore d_W_told_117 (by decide +kernel) (L2 := [(5, _), (4, _), (3, _), (0, _), (1, _), (2, _)]) rfl ?_
    refine lf_iload d_W_told_119 rfl ?_
    refine lf_iconst d_W_told_121 (v := Int32.ofInt ((2 : Nat) : Int)) rfl ?_
    refine gi_icmp_eq d_W_told_122 (tgt := 143) (by decide) (by omega) (fun hb122 => ?_) (fun hb122 => False.elim (by exact absurd hb122 (by decide)))
    refine lf_iload d_W_told_143 rfl ?_
    refine lf_goto d_W_told_145 (tgt := 152) (by decide) ?_
    refine gw_iret d_W_told_152 rfl ?_
    exact ⟨rfl, rfl, rfl, rfl⟩
  · refine lf_iload_n d_W_told_0 rfl rfl ?_
    refine gi_if_eq d_W_told_1 (tgt := 8) (by decide) (by omega) (fun hb1 => False.elim (by exact absurd hb1 (by decide))) (fun hb1 => ?_)
    refine lf_iload_n d_W_told_4 rfl rfl ?_
    refine gi_if_ne d_W_told_5 (tgt := 12) (by decide) (by omega) (fun hb5 => ?_) (fun hb5 => False.elim (by exact absurd hb5 (by decide)))
    refine lf_iload_n d_W_told_12 rfl rfl ?_
    refine lf_iconst d_W_told_13 (v := Int32.ofInt ((1 : Nat) : Int)) rfl ?_
    refine gi_icmp_ne d_W_told_14 (tgt := 26) (by decide) (by omega) (fun hb14 => ?_) (fun hb14 => False.elim (by exact absurd hb14 (by decide)))
    refine lf_iconst d_W_told_26 (v := Int32.ofInt ((2 : Nat) : Int)) rfl ?_
    refine lf_istore_n d_W_told_27 rfl (by decide +kernel) (L2 := [(3, _), (0, _), (1, _), (2, _)]) rfl ?_
    refine lf_iload_n d_W_told_28 rfl rfl ?_
    refine lf_iconst d_W_told_29 (v := Int32.ofInt ((1 : Nat) : Int)) rfl ?_
    refine gi_icmp_eq d_W_told_30 (tgt := 38) (by decide) (by omega) (fun hb30 => False.elim (by exact absurd hb30 (by decide))) (fun hb30 => ?_)
    refine lf_iload_n d_W_told_33 rfl rfl ?_
    refine lf_iconst d_W_told_34 (v := Int32.ofInt ((1 : Nat) : Int)) rfl ?_
    refine gi_icmp_ne d_W_told_35 (tgt := 42) (by decide) (by omega) (fun hb35 => False.elim (by exact absurd hb35 (by decide))) (fun hb35 => ?_)
    refine lf_iconst d_W_told_38 (v := Int32.ofInt ((1 : Nat) : Int)) rfl ?_
    refine lf_goto d_W_told_39 (tgt := 55) (by decide) ?_
    refine lf_istore d_W_told_55 (by decide +kernel) (L2 := [(4, _), (3, _), (0, _), (1, _), (2, _)]) rfl ?_
    refine lf_iload_n d_W_told_57 rfl rfl ?_
    refine lf_bipush d_W_told_58 (v := Int32.ofInt ((97 : Nat) : Int)) (by decide +kernel) ?_
    refine gi_icmp_eq d_W_told_60 (tgt := 69) (by decide) (by omega) (fun hb60 => False.elim (by exact absurd hb60 (by decide))) (fun hb60 => ?_)
    refine lf_iload_n d_W_told_63 rfl rfl ?_
    refine lf_bipush d_W_told_64 (v := Int32.ofInt ((110 : Nat) : Int)) (by decide +kernel) ?_
    refine gi_icmp_ne d_W_told_66 (tgt := 73) (by decide) (by omega) (fun hb66 => ?_) (fun hb66 => False.elim (by exact absurd hb66 (by decide)))
    refine lf_iload_n d_W_told_73 rfl rfl ?_
    refine lf_bipush d_W_told_74 (v := Int32.ofInt ((111 : Nat) : Int)) (by decide +kernel) ?_
    refine gi_icmp_eq d_W_told_76 (tgt := 85) (by decide) (by omega) (fun hb76 => False.elim (by exact absurd hb76 (by decide))) (fun hb76 => ?_)
    refine lf_iload_n d_W_told_79 rfl rfl ?_
    refine lf_bipush d_W_told_80 (v := Int32.ofInt ((114 : Nat) : Int)) (by decide +kernel) ?_
    refine gi_icmp_ne d_W_told_82 (tgt := 90) (by decide) (by omega) (fun hb82 => False.elim (by exact absurd hb82 (by decide))) (fun hb82 => ?_)
    refine lf_iload d_W_told_85 rfl ?_
    refine lf_goto d_W_told_87 (tgt := 117) (by decide) ?_
    refine lf_istore d_W_told_117 (by decide +kernel) (L2 := [(5, _), (4, _), (3, _), (0, _), (1, _), (2, _)]) rfl ?_
    refine lf_iload d_W_told_119 rfl ?_
    refine lf_iconst d_W_told_121 (v := Int32.ofInt ((2 : Nat) : Int)) rfl ?_
    refine gi_icmp_eq d_W_told_122 (tgt := 143) (by decide) (by omega) (fun hb122 => False.elim (by exact absurd hb122 (by decide))) (fun hb122 => ?_)
    refine lf_iload_n d_W_told_125 rfl rfl ?_
    refine lf_bipush d_W_told_126 (v := Int32.ofInt ((110 : Nat) : Int)) (by decide +kernel) ?_
    refine gi_icmp_eq d_W_told_128 (tgt := 148) (by decide) (by omega) (fun hb128 => False.elim (by exact absurd hb128 (by decide))) (fun hb128 => ?_)
    refine lf_iload_n d_W_told_131 rfl rfl ?_
    refine lf_bipush d_W_told_132 (v := Int32.ofInt ((114 : Nat) : Int)) (by decide +kernel) ?_
    refine gi_icmp_eq d_W_told_134 (tgt := 148) (by decide) (by omega) (fun hb134 => ?_) (fun hb134 => False.elim (by exact absurd hb134 (by decide)))
    refine lf_iconst d_W_told_148 (v := Int32.ofInt ((1 : Nat) : Int)) rfl ?_
    refine lf_iload d_W_told_149 rfl ?_
    refine gi_isubN (a := 1) (b := 1) d_W_told_151 (by omega) ?_
    refine gw_iret d_W_told_152 rfl ?_
    exact ⟨rfl, rfl, rfl, rfl⟩
  · refine lf_iload_n d_W_told_0 rfl rfl ?_
    refine gi_if_eq d_W_told_1 (tgt := 8) (by decide) (by omega) (fun hb1 => False.elim (by exact absurd hb1 (by decide))) (fun hb1 => ?_)
    refine lf_iload_n d_W_told_4 rfl rfl ?_
    refine gi_if_ne d_W_told_5 (tgt := 12) (by decide) (by omega) (fun hb5 => ?_) (fun hb5 => False.elim (by exact absurd hb5 (by decide)))
    refine lf_iload_n d_W_told_12 rfl rfl ?_
    refine lf_iconst d_W_told_13 (v := Int32.ofInt ((1 : Nat) : Int)) rfl ?_
    refine gi_icmp_ne d_W_told_14 (tgt := 26) (by decide) (by omega) (fun hb14 => ?_) (fun hb14 => False.elim (by exact absurd hb14 (by decide)))
    refine lf_iconst d_W_told_26 (v := Int32.ofInt ((2 : Nat) : Int)) rfl ?_
    refine lf_istore_n d_W_told_27 rfl (by decide +kernel) (L2 := [(3, _), (0, _), (1, _), (2, _)]) rfl ?_
    refine lf_iload_n d_W_told_28 rfl rfl ?_
    refine lf_iconst d_W_told_29 (v := Int32.ofInt ((1 : Nat) : Int)) rfl ?_
    refine gi_icmp_eq d_W_told_30 (tgt := 38) (by decide) (by omega) (fun hb30 => False.elim (by exact absurd hb30 (by decide))) (fun hb30 => ?_)
    refine lf_iload_n d_W_told_33 rfl rfl ?_
    refine lf_iconst d_W_told_34 (v := Int32.ofInt ((1 : Nat) : Int)) rfl ?_
    refine gi_icmp_ne d_W_told_35 (tgt := 42) (by decide) (by omega) (fun hb35 => ?_) (fun hb35 => False.elim (by exact absurd hb35 (by decide)))
    refine lf_iload_n d_W_told_42 rfl rfl ?_
    refine gi_if_ne d_W_told_43 (tgt := 54) (by decide) (by omega) (fun hb43 => ?_) (fun hb43 => False.elim (by exact absurd hb43 (by decide)))
    refine lf_iconst d_W_told_54 (v := Int32.ofInt ((2 : Nat) : Int)) rfl ?_
    refine lf_istore d_W_told_55 (by decide +kernel) (L2 := [(4, _), (3, _), (0, _), (1, _), (2, _)]) rfl ?_
    refine lf_iload_n d_W_told_57 rfl rfl ?_
    refine lf_bipush d_W_told_58 (v := Int32.ofInt ((97 : Nat) : Int)) (by decide +kernel) ?_
    refine gi_icmp_eq d_W_told_60 (tgt := 69) (by decide) (by omega) (fun hb60 => False.elim (by exact absurd hb60 (by decide))) (fun hb60 => ?_)
    refine lf_iload_n d_W_told_63 rfl rfl ?_
    refine lf_bipush d_W_told_64 (v := Int32.ofInt ((110 : Nat) : Int)) (by decide +kernel) ?_
    refine gi_icmp_ne d_W_told_66 (tgt := 73) (by decide) (by omega) (fun hb66 => ?_) (fun hb66 => False.elim (by exact absurd hb66 (by decide)))
    refine lf_iload_n d_W_told_73 rfl rfl ?_
    refine lf_bipush d_W_told_74 (v := Int32.ofInt ((111 : Nat) : Int)) (by decide +kernel) ?_
    refine gi_icmp_eq d_W_told_76 (tgt := 85) (by decide) (by omega) (fun hb76 => False.elim (by exact absurd hb76 (by decide))) (fun hb76 => ?_)
    refine lf_iload_n d_W_told_79 rfl rfl ?_
    refine lf_bipush d_W_told_80 (v := Int32.ofInt ((114 : Nat) : Int)) (by decide +kernel) ?_
    refine gi_icmp_ne d_W_told_82 (tgt := 90) (by decide) (by omega) (fun hb82 => False.elim (by exact absurd hb82 (by decide))) (fun hb82 => ?_)
    refine lf_iload d_W_told_85 rfl ?_
    refine lf_goto d_W_told_87 (tgt := 117) (by decide) ?_
    refine lf_istore d_W_told_117 (by decide +kernel) (L2 := [(5, _), (4, _), (3, _), (0, _), (1, _), (2, _)]) rfl ?_
    refine lf_iload d_W_told_119 rfl ?_
    refine lf_iconst d_W_told_121 (v := Int32.ofInt ((2 : Nat) : Int)) rfl ?_
    refine gi_icmp_eq d_W_told_122 (tgt := 143) (by decide) (by omega) (fun hb122 => ?_) (fun hb122 => False.elim (by exact absurd hb122 (by decide)))
    refine lf_iload d_W_told_143 rfl ?_
    refine lf_goto d_W_told_145 (tgt := 152) (by decide) ?_
    refine gw_iret d_W_told_152 rfl ?_
    exact ⟨rfl, rfl, rfl, rfl⟩
theorem w_told120 (hx : HX X L9 xs) {a b : Nat} (ha : a ≤ 2) (hb : b ≤ 2) : EVp TT cl6 X mi_W_told 0 [.int (Int32.ofInt ((120 : Nat) : Int)), .int (Int32.ofInt ((a : Nat) : Int)), .int (Int32.ofInt ((b : Nat) : Int))] sh I J (.int (Int32.ofInt ((tldN 120 a b : Nat) : Int))) := by
  have h9 : (a = 0 ∨ a = 1 ∨ a = 2) ∧ (b = 0 ∨ b = 1 ∨ b = 2) := by omega
  obtain ⟨h1, h2⟩ := h9
  refine gw_enter (hx_ok hx) (by decide +kernel) (Nat.le_of_ble_eq_true rfl) (L := [(0, _), (1, _), (2, _)]) rfl ?_
  rcases h1 with rfl | rfl | rfl <;> rcases h2 with rfl | rfl | rfl
  · refine lf_iload_n d_W_told_0 rfl rfl ?_
    refine gi_if_eq d_W_told_1 (tgt := 8) (by decide) (by omega) (fun hb1 => ?_) (fun hb1 => False.elim (by exact absurd hb1 (by decide)))
    refine lf_iconst d_W_told_8 (v := Int32.ofInt ((0 : Nat) : Int)) rfl ?_
    refine lf_goto d_W_told_9 (tgt := 27) (by decide) ?_
    refine lf_istore_n d_W_told_27 rfl (by decide +kernel) (L2 := [(3, _), (0, _), (1, _), (2, _)]) rfl ?_
    refine lf_iload_n d_W_told_28 rfl rfl ?_
    refine lf_iconst d_W_told_29 (v := Int32.ofInt ((1 : Nat) : Int)) rfl ?_
    refine gi_icmp_eq d_W_told_30 (tgt := 38) (by decide) (by omega) (fun hb30 => False.elim (by exact absurd hb30 (by decide))) (fun hb30 => ?_)
    refine lf_iload_n d_W_told_33 rfl rfl ?_
    refine lf_iconst d_W_told_34 (v := Int32.ofInt ((1 : Nat) : Int)) rfl ?_
    refine gi_icmp_ne d_W_told_35 (tgt := 42) (by decide) (by omega) (fun hb35 => ?_) (fun hb35 => False.elim (by exact absurd hb35 (by decide)))
    refine lf_iload_n d_W_told_42 rfl rfl ?_
    refine gi_if_ne d_W_told_43 (tgt := 54) (by decide) (by omega) (fun hb43 => False.elim (by exact absurd hb43 (by decide))) (fun hb43 => ?_)
    refine lf_iload_n d_W_told_46 rfl rfl ?_
    refine gi_if_ne d_W_told_47 (tgt := 54) (by decide) (by omega) (fun hb47 => False.elim (by exact absurd hb47 (by decide))) (fun hb47 => ?_)
    refine lf_iconst d_W_told_50 (v := Int32.ofInt ((0 : Nat) : Int)) rfl ?_
    refine lf_goto d_W_told_51 (tgt := 55) (by decide) ?_
    refine lf_istore d_W_told_55 (by decide +kernel) (L2 := [(4, _), (3, _), (0, _), (1, _), (2, _)]) rfl ?_
    refine lf_iload_n d_W_told_57 rfl rfl ?_
    refine lf_bipush d_W_told_58 (v := Int32.ofInt ((97 : Nat) : Int)) (by decide +kernel) ?_
    refine gi_icmp_eq d_W_told_60 (tgt := 69) (by decide) (by omega) (fun hb60 => False.elim (by exact absurd hb60 (by decide))) (fun hb60 => ?_)
    refine lf_iload_n d_W_told_63 rfl rfl ?_
    refine lf_bipush d_W_told_64 (v := Int32.ofInt ((110 : Nat) : Int)) (by decide +kernel) ?_
    refine gi_icmp_ne d_W_told_66 (tgt := 73) (by decide) (by omega) (fun hb66 => ?_) (fun hb66 => False.elim (by exact absurd hb66 (by decide)))
    refine lf_iload_n d_W_told_73 rfl rfl ?_
    refine lf_bipush d_W_told_74 (v := Int32.ofInt ((111 : Nat) : Int)) (by decide +kernel) ?_
    refine gi_icmp_eq d_W_told_76 (tgt := 85) (by decide) (by omega) (fun hb76 => False.elim (by exact absurd hb76 (by decide))) (fun hb76 => ?_)
    refine lf_iload_n d_W_told_79 rfl rfl ?_
    refine lf_bipush d_W_told_80 (v := Int32.ofInt ((114 : Nat) : Int)) (by decide +kernel) ?_
    refine gi_icmp_ne d_W_told_82 (tgt := 90) (by decide) (by omega) (fun hb82 => ?_) (fun hb82 => False.elim (by exact absurd hb82 (by decide)))
    refine lf_iload_n d_W_told_90 rfl rfl ?_
    refine lf_bipush d_W_told_91 (v := Int32.ofInt ((120 : Nat) : Int)) (by decide +kernel) ?_
    refine gi_icmp_ne d_W_told_93 (tgt := 116) (by decide) (by omega) (fun hb93 => False.elim (by exact absurd hb93 (by decide))) (fun hb93 => ?_)
    refine lf_iload_n d_W_told_96 rfl rfl ?_
    refine lf_iconst d_W_told_97 (v := Int32.ofInt ((2 : Nat) : Int)) rfl ?_
    refine gi_icmp_eq d_W_told_98 (tgt := 106) (by decide) (by omega) (fun hb98 => False.elim (by exact absurd hb98 (by decide))) (fun hb98 => ?_)
    refine lf_iload_n d_W_told_101 rfl rfl ?_
    refine lf_iconst d_W_told_102 (v := Int32.ofInt ((2 : Nat) : Int)) rfl ?_
    refine gi_icmp_ne d_W_told_103 (tgt := 110) (by decide) (by omega) (fun hb103 => ?_) (fun hb103 => False.elim (by exact absurd hb103 (by decide)))
    refine lf_iload_n d_W_told_110 rfl rfl ?_
    refine lf_iload_n d_W_told_111 rfl rfl ?_
    refine gi_ixorN (a := 0) (b := 0) d_W_told_112 ?_
    refine gi_top (b := ((0 : Nat) : Int)) rfl ?_
    refine lf_goto d_W_told_113 (tgt := 117) (by decide) ?_
    refine lf_istore d_W_told_117 (by decide +kernel) (L2 := [(5, _), (4, _), (3, _), (0, _), (1, _), (2, _)]) rfl ?_
    refine lf_iload d_W_told_119 rfl ?_
    refine lf_iconst d_W_told_121 (v := Int32.ofInt ((2 : Nat) : Int)) rfl ?_
    refine gi_icmp_eq d_W_told_122 (tgt := 143) (by decide) (by omega) (fun hb122 => False.elim (by exact absurd hb122 (by decide))) (fun hb122 => ?_)
    refine lf_iload_n d_W_told_125 rfl rfl ?_
    refine lf_bipush d_W_told_126 (v := Int32.ofInt ((110 : Nat) : Int)) (by decide +kernel) ?_
    refine gi_icmp_eq d_W_told_128 (tgt := 148) (by decide) (by omega) (fun hb128 => False.elim (by exact absurd hb128 (by decide))) (fun hb128 => ?_)
    refine lf_iload_n d_W_told_131 rfl rfl ?_
    refine lf_bipush d_W_told_132 (v := Int32.ofInt ((114 : Nat) : Int)) (by decide +kernel) ?_
    refine gi_icmp_eq d_W_told_134 (tgt := 148) (by decide) (by omega) (fun hb134 => False.elim (by exact absurd hb134 (by decide))) (fun hb134 => ?_)
    refine lf_iload_n d_W_told_137 rfl rfl ?_
    refine lf_bipush d_W_told_138 (v := Int32.ofInt ((118 : Nat) : Int)) (by decide +kernel) ?_
    refine gi_icmp_eq d_W_told_140 (tgt := 148) (by decide) (by omega) (fun hb140 => False.elim (by exact absurd hb140 (by decide))) (fun hb140 => ?_)
    refine lf_iload d_W_told_143 rfl ?_
    refine lf_goto d_W_told_145 (tgt := 152) (by decide) ?_
    refine gw_iret d_W_told_152 rfl ?_
    exact ⟨rfl, rfl, rfl, rfl⟩
  · refine lf_iload_n d_W_told_0 rfl rfl ?_
    refine gi_if_eq d_W_told_1 (tgt := 8) (by decide) (by omega) (fun hb1 => ?_) (fun hb1 => False.elim (by exact absurd hb1 (by decide)))
    refine lf_iconst d_W_told_8 (v := Int32.ofInt ((0 : Nat) : Int)) rfl ?_
    refine lf_goto d_W_told_9 (tgt := 27) (by decide) ?_
    refine lf_istore_n d_W_told_27 rfl (by decide +kernel) (L2 := [(3, _), (0, _), (1, _), (2, _)]) rfl ?_
    refine lf_iload_n d_W_told_28 rfl rfl ?_
    refine lf_iconst d_W_told_29 (v := Int32.ofInt ((1 : Nat) : Int)) rfl ?_
    refine gi_icmp_eq d_W_told_30 (tgt := 38) (by decide) (by omega) (fun hb30 => False.elim (by exact absurd hb30 (by decide))) (fun hb30 => ?_)
    refine lf_iload_n d_W_told_33 rfl rfl ?_
    refine lf_iconst d_W_told_34 (v := Int32.ofInt ((1 : Nat) : Int)) rfl ?_
    refine gi_icmp_ne d_W_told_35 (tgt := 42) (by decide) (by omega) (fun hb35 => False.elim (by exact absurd hb35 (by decide))) (fun hb35 => ?_)
    refine lf_iconst d_W_told_38 (v := Int32.ofInt ((1 : Nat) : Int)) rfl ?_
    refine lf_goto d_W_told_39 (tgt := 55) (by decide) ?_
    refine lf_istore d_W_told_55 (by decide +kernel) (L2 := [(4, _), (3, _), (0, _), (1, _), (2, _)]) rfl ?_
    refine lf_iload_n d_W_told_57 rfl rfl ?_
    refine lf_bipush d_W_told_58 (v := Int32.ofInt ((97 : Nat) : Int)) (by decide +kernel) ?_
    refine gi_icmp_eq d_W_told_60 (tgt := 69) (by decide) (by omega) (fun hb60 => False.elim (by exact absurd hb60 (by decide))) (fun hb60 => ?_)
    refine lf_iload_n d_W_told_63 rfl rfl ?_
    refine lf_bipush d_W_told_64 (v := Int32.ofInt ((110 : Nat) : Int)) (by decide +kernel) ?_
    refine gi_icmp_ne d_W_told_66 (tgt := 73) (by decide) (by omega) (fun hb66 => ?_) (fun hb66 => False.elim (by exact absurd hb66 (by decide)))
    refine lf_iload_n d_W_told_73 rfl rfl ?_
    refine lf_bipush d_W_told_74 (v := Int32.ofInt ((111 : Nat) : Int)) (by decide +kernel) ?_
    refine gi_icmp_eq d_W_told_76 (tgt := 85) (by decide) (by omega) (fun hb76 => False.elim (by exact absurd hb76 (by decide))) (fun hb76 => ?_)
    refine lf_iload_n d_W_told_79 rfl rfl ?_
    refine lf_bipush d_W_told_80 (v := Int32.ofInt ((114 : Nat) : Int)) (by decide +kernel) ?_
    refine gi_icmp_ne d_W_told_82 (tgt := 90) (by decide) (by omega) (fun hb82 => ?_) (fun hb82 => False.elim (by exact absurd hb82 (by decide)))
    refine lf_iload_n d_W_told_90 rfl rfl ?_
    refine lf_bipush d_W_told_91 (v := Int32.ofInt ((120 : Nat) : Int)) (by decide +kernel) ?_
    refine gi_icmp_ne d_W_told_93 (tgt := 116) (by decide) (by omega) (fun hb93 => False.elim (by exact absurd hb93 (by decide))) (fun hb93 => ?_)
    refine lf_iload_n d_W_told_96 rfl rfl ?_
    refine lf_iconst d_W_told_97 (v := Int32.ofInt ((2 : Nat) : Int)) rfl ?_
    refine gi_icmp_eq d_W_told_98 (tgt := 106) (by decide) (by omega) (fun hb98 => False.elim (by exact absurd hb98 (by decide))) (fun hb98 => ?_)
    refine lf_iload_n d_W_told_101 rfl rfl ?_
    refine lf_iconst d_W_told_102 (v := Int32.ofInt ((2 : Nat) : Int)) rfl ?_
    refine gi_icmp_ne d_W_told_103 (tgt := 110) (by decide) (by omega) (fun hb103 => ?_) (fun hb103 => False.elim (by exact absurd hb103 (by decide)))
    refine lf_iload_n d_W_told_110 rfl rfl ?_
    refine lf_iload_n d_W_told_111 rfl rfl ?_
    refine gi_ixorN (a := 0) (b := 1) d_W_told_112 ?_
    refine gi_top (b := ((1 : Nat) : Int)) rfl ?_
    refine lf_goto d_W_told_113 (tgt := 117) (by decide) ?_
    refine lf_istore d_W_told_117 (by decide +kernel) (L2 := [(5, _), (4, _), (3, _), (0, _), (1, _), (2, _)]) rfl ?_
    refine lf_iload d_W_told_119 rfl ?_
    refine lf_iconst d_W_told_121 (v := Int32.ofInt ((2 : Nat) : Int)) rfl ?_
    refine gi_icmp_eq d_W_told_122 (tgt := 143) (by decide) (by omega) (fun hb122 => False.elim (by exact absurd hb122 (by decide))) (fun hb122 => ?_)
    refine lf_iload_n d_W_told_125 rfl rfl ?_
    refine lf_bipush d_W_told_126 (v := Int32.ofInt ((110 : Nat) : Int)) (by decide +kernel) ?_
    refine gi_icmp_eq d_W_told_128 (tgt := 148) (by decide) (by omega) (fun hb128 => False.elim (by exact absurd hb128 (by decide))) (fun hb128 => ?_)
    refine lf_iload_n d_W_told_131 rfl rfl ?_
    refine lf_bipush d_W_told_132 (v := Int32.ofInt ((114 : Nat) : Int)) (by decide +kernel) ?_
    refine gi_icmp_eq d_W_told_134 (tgt := 148) (by decide) (by omega) (fun hb134 => False.elim (by exact absurd hb134 (by decide))) (fun hb134 => ?_)
    refine lf_iload_n d_W_told_137 rfl rfl ?_
    refine lf_bipush d_W_told_138 (v := Int32.ofInt ((118 : Nat) : Int)) (by decide +kernel) ?_
    refine gi_icmp_eq d_W_told_140 (tgt := 148) (by decide) (by omega) (fun hb140 => False.elim (by exact absurd hb140 (by decide))) (fun hb140 => ?_)
    refine lf_iload d_W_told_143 rfl ?_
    refine lf_goto d_W_told_145 (tgt := 152) (by decide) ?_
    refine gw_iret d_W_told_152 rfl ?_
    exact ⟨rfl, rfl, rfl, rfl⟩
  · refine lf_iload_n d_W_told_0 rfl rfl ?_
    refine gi_if_eq d_W_told_1 (tgt := 8) (by decide) (by omega) (fun hb1 => ?_) (fun hb1 => False.elim (by exact absurd hb1 (by decide)))
    refine lf_iconst d_W_told_8 (v := Int32.ofInt ((0 : Nat) : Int)) rfl ?_
    refine lf_goto d_W_told_9 (tgt := 27) (by decide) ?_
    refine lf_istore_n d_W_told_27 rfl (by decide +kernel) (L2 := [(3, _), (0, _), (1, _), (2, _)]) rfl ?_
    refine lf_iload_n d_W_told_28 rfl rfl ?_
    refine lf_iconst d_W_told_29 (v := Int32.ofInt ((1 : Nat) : Int)) rfl ?_
    refine gi_icmp_eq d_W_told_30 (tgt := 38) (by decide) (by omega) (fun hb30 => False.elim (by exact absurd hb30 (by decide))) (fun hb30 => ?_)
    refine lf_iload_n d_W_told_33 rfl rfl ?_
    refine lf_iconst d_W_told_34 (v := Int32.ofInt ((1 : Nat) : Int)) rfl ?_
    refine gi_icmp_ne d_W_told_35 (tgt := 42) (by decide) (by omega) (fun hb35 => ?_) (fun hb35 => False.elim (by exact absurd hb35 (by decide)))
    refine lf_iload_n d_W_told_42 rfl rfl ?_
    refine gi_if_ne d_W_told_43 (tgt := 54) (by decide) (by omega) (fun hb43 => False.elim (by exact absurd hb43 (by decide))) (fun hb43 => ?_)
    refine lf_iload_n d_W_told_46 rfl rfl ?_
    refine gi_if_ne d_W_told_47 (tgt := 54) (by decide) (by omega) (fun hb47 => ?_) (fun hb47 => False.elim (by exact absurd hb47 (by decide)))
    refine lf_iconst d_W_told_54 (v := Int32.ofInt ((2 : Nat) : Int)) rfl ?_
    refine lf_istore d_W_told_55 (by decide +kernel) (L2 := [(4, _), (3, _), (0, _), (1, _), (2, _)]) rfl ?_
    refine lf_iload_n d_W_told_57 rfl rfl ?_
    refine lf_bipush d_W_told_58 (v := Int32.ofInt ((97 : Nat) : Int)) (by decide +kernel) ?_
    refine gi_icmp_eq d_W_told_60 (tgt := 69) (by decide) (by omega) (fun hb60 => False.elim (by exact absurd hb60 (by decide))) (fun hb60 => ?_)
    refine lf_iload_n d_W_told_63 rfl rfl ?_
    refine lf_bipush d_W_told_64 (v := Int32.ofInt ((110 : Nat) : Int)) (by decide +kernel) ?_
    refine gi_icmp_ne d_W_told_66 (tgt := 73) (by decide) (by omega) (fun hb66 => ?_) (fun hb66 => False.elim (by exact absurd hb66 (by decide)))
    refine lf_iload_n d_W_told_73 rfl rfl ?_
    refine lf_bipush d_W_told_74 (v := Int32.ofInt ((111 : Nat) : Int)) (by decide +kernel) ?_
    refine gi_icmp_eq d_W_told_76 (tgt := 85) (by decide) (by omega) (fun hb76 => False.elim (by exact absurd hb76 (by decide))) (fun hb76 => ?_)
    refine lf_iload_n d_W_told_79 rfl rfl ?_
    refine lf_bipush d_W_told_80 (v := Int32.ofInt ((114 : Nat) : Int)) (by decide +kernel) ?_
    refine gi_icmp_ne d_W_told_82 (tgt := 90) (by decide) (by omega) (fun hb82 => ?_) (fun hb82 => False.elim (by exact absurd hb82 (by decide)))
    refine lf_iload_n d_W_told_90 rfl rfl ?_
    refine lf_bipush d_W_told_91 (v := Int32.ofInt ((120 : Nat) : Int)) (by decide +kernel) ?_
    refine gi_icmp_ne d_W_told_93 (tgt := 116) (by decide) (by omega) (fun hb93 => False.elim (by exact absurd hb93 (by decide))) (fun hb93 => ?_)
    refine lf_iload_n d_W_told_96 rfl rfl ?_
    refine lf_iconst d_W_told_97 (v := Int32.ofInt ((2 : Nat) : Int)) rfl ?_
    refine gi_icmp_eq d_W_told_98 (tgt := 106) (by decide) (by omega) (fun hb98 => False.elim (by exact absurd hb98 (by decide))) (fun hb98 => ?_)
    refine lf_iload_n d_W_told_101 rfl rfl ?_
    refine lf_iconst d_W_told_102 (v := Int32.ofInt ((2 : Nat) : Int)) rfl ?_
    refine gi_icmp_ne d_W_told_103 (tgt := 110) (by decide) (by omega) (fun hb103 => False.elim (by exact absurd hb103 (by decide))) (fun hb103 => ?_)
    refine lf_iconst d_W_told_106 (v := Int32.ofInt ((2 : Nat) : Int)) rfl ?_
    refine lf_goto d_W_told_107 (tgt := 117) (by decide) ?_
    refine lf_istore d_W_told_117 (by decide +kernel) (L2 := [(5, _), (4, _), (3, _), (0, _), (1, _), (2, _)]) rfl ?_
    refine lf_iload d_W_told_119 rfl ?_
    refine lf_iconst d_W_told_121 (v := Int32.ofInt ((2 : Nat) : Int)) rfl ?_
    refine gi_icmp_eq d_W_told_122 (tgt := 143) (by decide) (by omega) (fun hb122 => ?_) (fun hb122 => False.elim (by exact absurd hb122 (by decide)))
    refine lf_iload d_W_told_143 rfl ?_
    refine lf_goto d_W_told_145 (tgt := 152) (by decide) ?_
    refine gw_iret d_W_told_152 rfl ?_
    exact ⟨rfl, rfl, rfl, rfl⟩
  · refine lf_iload_n d_W_told_0 rfl rfl ?_
    refine gi_if_eq d_W_told_1 (tgt := 8) (by decide) (by omega) (fun hb1 => False.elim (by exact absurd hb1 (by decide))) (fun hb1 => ?_)
    refine lf_iload_n d_W_told_4 rfl rfl ?_
    refine gi_if_ne d_W_told_5 (tgt := 12) (by decide) (by omega) (fun hb5 => False.elim (by exact absurd hb5 (by decide))) (fun hb5 => ?_)
    refine lf_iconst d_W_told_8 (v := Int32.ofInt ((0 : Nat) : Int)) rfl ?_
    refine lf_goto d_W_told_9 (tgt := 27) (by decide) ?_
    refine lf_istore_n d_W_told_27 rfl (by decide +kernel) (L2 := [(3, _), (0, _), (1, _), (2, _)]) rfl ?_
    refine lf_iload_n d_W_told_28 rfl rfl ?_
    refine lf_iconst d_W_told_29 (v := Int32.ofInt ((1 : Nat) : Int)) rfl ?_
    refine gi_icmp_eq d_W_told_30 (tgt := 38) (by decide) (by omega) (fun hb30 => ?_) (fun hb30 => False.elim (by exact absurd hb30 (by decide)))
    refine lf_iconst d_W_told_38 (v := Int32.ofInt ((1 : Nat) : Int)) rfl ?_
    refine lf_goto d_W_told_39 (tgt := 55) (by decide) ?_
    refine lf_istore d_W_told_55 (by decide +kernel) (L2 := [(4, _), (3, _), (0, _), (1, _), (2, _)]) rfl ?_
    refine lf_iload_n d_W_told_57 rfl rfl ?_
    refine lf_bipush d_W_told_58 (v := Int32.ofInt ((97 : Nat) : Int)) (by decide +kernel) ?_
    refine gi_icmp_eq d_W_told_60 (tgt := 69) (by decide) (by omega) (fun hb60 => False.elim (by exact absurd hb60 (by decide))) (fun hb60 => ?_)
    refine lf_iload_n d_W_told_63 rfl rfl ?_
    refine lf_bipush d_W_told_64 (v := Int32.ofInt ((110 : Nat) : Int)) (by decide +kernel) ?_
    refine gi_icmp_ne d_W_told_66 (tgt := 73) (by decide) (by omega) (fun hb66 => ?_) (fun hb66 => False.elim (by exact absurd hb66 (by decide)))
    refine lf_iload_n d_W_told_73 rfl rfl ?_
    refine lf_bipush d_W_told_74 (v := Int32.ofInt ((111 : Nat) : Int)) (by decide +kernel) ?_
    refine gi_icmp_eq d_W_told_76 (tgt := 85) (by decide) (by omega) (fun hb76 => False.elim (by exact absurd hb76 (by decide))) (fun hb76 => ?_)
    refine lf_iload_n d_W_told_79 rfl rfl ?_
    refine lf_bipush d_W_told_80 (v := Int32.ofInt ((114 : Nat) : Int)) (by decide +kernel) ?_
    refine gi_icmp_ne d_W_told_82 (tgt := 90) (by decide) (by omega) (fun hb82 => ?_) (fun hb82 => False.elim (by exact absurd hb82 (by decide)))
    refine lf_iload_n d_W_told_90 rfl rfl ?_
    refine lf_bipush d_W_told_91 (v := Int32.ofInt ((120 : Nat) : Int)) (by decide +kernel) ?_
    refine gi_icmp_ne d_W_told_93 (tgt := 116) (by decide) (by omega) (fun hb93 => False.elim (by exact absurd hb93 (by decide))) (fun hb93 => ?_)
    refine lf_iload_n d_W_told_96 rfl rfl ?_
    refine lf_iconst d_W_told_97 (v := Int32.ofInt ((2 : Nat) : Int)) rfl ?_
    refine gi_icmp_eq d_W_told_98 (tgt := 106) (by decide) (by omega) (fun hb98 => False.elim (by exact absurd hb98 (by decide))) (fun hb98 => ?_)
    refine lf_iload_n d_W_told_101 rfl rfl ?_
    refine lf_iconst d_W_told_102 (v := Int32.ofInt ((2 : Nat) : Int)) rfl ?_
    refine gi_icmp_ne d_W_told_103 (tgt := 110) (by decide) (by omega) (fun hb103 => ?_) (fun hb103 => False.elim (by exact absurd hb103 (by decide)))
    refine lf_iload_n d_W_told_110 rfl rfl ?_
    refine lf_iload_n d_W_told_111 rfl rfl ?_
    refine gi_ixorN (a := 1) (b := 0) d_W_told_112 ?_
    refine gi_top (b := ((1 : Nat) : Int)) rfl ?_
    refine lf_goto d_W_told_113 (tgt := 117) (by decide) ?_
    refine lf_istore d_W_told_117 (by decide +kernel) (L2 := [(5, _), (4, _), (3, _), (0, _), (1, _), (2, _)]) rfl ?_
    refine lf_iload d_W_told_119 rfl ?_
    refine lf_iconst d_W_told_121 (v := Int32.ofInt ((2 : Nat) : Int)) rfl ?_
    refine gi_icmp_eq d_W_told_122 (tgt := 143) (by decide) (by omega) (fun hb122 => False.elim (by exact absurd hb122 (by decide))) (fun hb122 => ?_)
    refine lf_iload_n d_W_told_125 rfl rfl ?_
    refine lf_bipush d_W_told_126 (v := Int32.ofInt ((110 : Nat) : Int)) (by decide +kernel) ?_
    refine gi_icmp_eq d_W_told_128 (tgt := 148) (by decide) (by omega) (fun hb128 => False.elim (by exact absurd hb128 (by decide))) (fun hb128 => ?_)
    refine lf_iload_n d_W_told_131 rfl rfl ?_
    refine lf_bipush d_W_told_132 (v := Int32.ofInt ((114 : Nat) : Int)) (by decide +kernel) ?_
    refine gi_icmp_eq d_W_told_134 (tgt := 148) (by decide) (by omega) (fun hb134 => False.elim (by exact absurd hb134 (by decide))) (fun hb134 => ?_)
    refine lf_iload_n d_W_told_137 rfl rfl ?_
    refine lf_bipush d_W_told_138 (v := Int32.ofInt ((118 : Nat) : Int)) (by decide +kernel) ?_
    refine gi_icmp_eq d_W_told_140 (tgt := 148) (by decide) (by omega) (fun hb140 => False.elim (by exact absurd hb140 (by decide))) (fun hb140 => ?_)
    refine lf_iload d_W_told_143 rfl ?_
    refine lf_goto d_W_told_145 (tgt := 152) (by decide) ?_
    refine gw_iret d_W_told_152 rfl ?_
    exact ⟨rfl, rfl, rfl, rfl⟩
  · refine lf_iload_n d_W_told_0 rfl rfl ?_
    refine gi_if_eq d_W_told_1 (tgt := 8) (by decide) (by omega) (fun hb1 => False.elim (by exact absurd hb1 (by decide))) (fun hb1 => ?_)
    refine lf_iload_n d_W_told_4 rfl rfl ?_
    refine gi_if_ne d_W_told_5 (tgt := 12) (by decide) (by omega) (fun hb5 => ?_) (fun hb5 => False.elim (by exact absurd hb5 (by decide)))
    refine lf_iload_n d_W_told_12 rfl rfl ?_
    refine lf_iconst d_W_told_13 (v := Int32.ofInt ((1 : Nat) : Int)) rfl ?_
    refine gi_icmp_ne d_W_told_14 (tgt := 26) (by decide) (by omega) (fun hb14 => False.elim (by exact absurd hb14 (by decide))) (fun hb14 => ?_)
    refine lf_iload_n d_W_told_17 rfl rfl ?_
    refine lf_iconst d_W_told_18 (v := Int32.ofInt ((1 : Nat) : Int)) rfl ?_
    refine gi_icmp_ne d_W_told_19 (tgt := 26) (by decide) (by omega) (fun hb19 => False.elim (by exact absurd hb19 (by decide))) (fun hb19 => ?_)
    refine lf_iconst d_W_told_22 (v := Int32.ofInt ((1 : Nat) : Int)) rfl ?_
    refine lf_goto d_W_told_23 (tgt := 27) (by decide) ?_
    refine lf_istore_n d_W_told_27 rfl (by decide +kernel) (L2 := [(3, _), (0, _), (1, _), (2, _)]) rfl ?_
    refine lf_iload_n d_W_told_28 rfl rfl ?_
    refine lf_iconst d_W_told_29 (v := Int32.ofInt ((1 : Nat) : Int)) rfl ?_
    refine gi_icmp_eq d_W_told_30 (tgt := 38) (by decide) (by omega) (fun hb30 => ?_) (fun hb30 => False.elim (by exact absurd hb30 (by decide)))
    refine lf_iconst d_W_told_38 (v := Int32.ofInt ((1 : Nat) : Int)) rfl ?_
    refine lf_goto d_W_told_39 (tgt := 55) (by decide) ?_
    refine lf_istore d_W_told_55 (by decide +kernel) (L2 := [(4, _), (3, _), (0, _), (1, _), (2, _)]) rfl ?_
    refine lf_iload_n d_W_told_57 rfl rfl ?_
    refine lf_bipush d_W_told_58 (v := Int32.ofInt ((97 : Nat) : Int)) (by decide +kernel) ?_
    refine gi_icmp_eq d_W_told_60 (tgt := 69) (by decide) (by omega) (fun hb60 => False.elim (by exact absurd hb60 (by decide))) (fun hb60 => ?_)
    refine lf_iload_n d_W_told_63 rfl rfl ?_
    refine lf_bipush d_W_told_64 (v := Int32.ofInt ((110 : Nat) : Int)) (by decide +kernel) ?_
    refine gi_icmp_ne d_W_told_66 (tgt := 73) (by decide) (by omega) (fun hb66 => ?_) (fun hb66 => False.elim (by exact absurd hb66 (by decide)))
    refine lf_iload_n d_W_told_73 rfl rfl ?_
    refine lf_bipush d_W_told_74 (v := Int32.ofInt ((111 : Nat) : Int)) (by decide +kernel) ?_
    refine gi_icmp_eq d_W_told_76 (tgt := 85) (by decide) (by omega) (fun hb76 => False.elim (by exact absurd hb76 (by decide))) (fun hb76 => ?_)
    refine lf_iload_n d_W_told_79 rfl rfl ?_
    refine lf_bipush d_W_told_80 (v := Int32.ofInt ((114 : Nat) : Int)) (by decide +kernel) ?_
    refine gi_icmp_ne d_W_told_82 (tgt := 90) (by decide) (by omega) (fun hb82 => ?_) (fun hb82 => False.elim (by exact absurd hb82 (by decide)))
    refine lf_iload_n d_W_told_90 rfl rfl ?_
    refine lf_bipush d_W_told_91 (v := Int32.ofInt ((120 : Nat) : Int)) (by decide +kernel) ?_
    refine gi_icmp_ne d_W_told_93 (tgt := 116) (by decide) (by omega) (fun hb93 => False.elim (by exact absurd hb93 (by decide))) (fun hb93 => ?_)
    refine lf_iload_n d_W_told_96 rfl rfl ?_
    refine lf_iconst d_W_told_97 (v := Int32.ofInt ((2 : Nat) : Int)) rfl ?_
    refine gi_icmp_eq d_W_told_98 (tgt := 106) (by decide) (by omega) (fun hb98 => False.elim (by exact absurd hb98 (by decide))) (fun hb98 => ?_)
    refine lf_iload_n d_W_told_101 rfl rfl ?_
    refine lf_iconst d_W_told_102 (v := Int32.ofInt ((2 : Nat) : Int)) rfl ?_
    refine gi_icmp_ne d_W_told_103 (tgt := 110) (by decide) (by omega) (fun hb103 => ?_) (fun hb103 => False.elim (by exact absurd hb103 (by decide)))
    refine lf_iload_n d_W_told_110 rfl rfl ?_
    refine lf_iload_n d_W_told_111 rfl rfl ?_
    refine gi_ixorN (a := 1) (b := 1) d_W_told_112 ?_
    refine gi_top (b := ((0 : Nat) : Int)) rfl ?_
    refine lf_goto d_W_told_113 (tgt := 117) (by decide) ?_
    refine lf_istore d_W_told_117 (by decide +kernel) (L2 := [(5, _), (4, _), (3, _), (0, _), (1, _), (2, _)]) rfl ?_
    refine lf_iload d_W_told_119 rfl ?_
    refine lf_iconst d_W_told_121 (v := Int32.ofInt ((2 : Nat) : Int)) rfl ?_
    refine gi_icmp_eq d_W_told_122 (tgt := 143) (by decide) (by omega) (fun hb122 => False.elim (by exact absurd hb122 (by decide))) (fun hb122 => ?_)
    refine lf_iload_n d_W_told_125 rfl rfl ?_
    refine lf_bipush d_W_told_126 (v := Int32.ofInt ((110 : Nat) : Int)) (by decide +kernel) ?_
    refine gi_icmp_eq d_W_told_128 (tgt := 148) (by decide) (by omega) (fun hb128 => False.elim (by exact absurd hb128 (by decide))) (fun hb128 => ?_)
    refine lf_iload_n d_W_told_131 rfl rfl ?_
    refine lf_bipush d_W_told_132 (v := Int32.ofInt ((114 : Nat) : Int)) (by decide +kernel) ?_
    refine gi_icmp_eq d_W_told_134 (tgt := 148) (by decide) (by omega) (fun hb134 => False.elim (by exact absurd hb134 (by decide))) (fun hb134 => ?_)
    refine lf_iload_n d_W_told_137 rfl rfl ?_
    refine lf_bipush d_W_told_138 (v := Int32.ofInt ((118 : Nat) : Int)) (by decide +kernel) ?_
    refine gi_icmp_eq d_W_told_140 (tgt := 148) (by decide) (by omega) (fun hb140 => False.elim (by exact absurd hb140 (by decide))) (fun hb140 => ?_)
    refine lf_iload d_W_told_143 rfl ?_
    refine lf_goto d_W_told_145 (tgt := 152) (by decide) ?_
    refine gw_iret d_W_told_152 rfl ?_
    exact ⟨rfl, rfl, rfl, rfl⟩
  · refine lf_iload_n d_W_told_0 rfl rfl ?_
    refine gi_if_eq d_W_told_1 (tgt := 8) (by decide) (by omega) (fun hb1 => False.elim (by exact absurd hb1 (by decide))) (fun hb1 => ?_)
    refine lf_iload_n d_W_told_4 rfl rfl ?_
    refine gi_if_ne d_W_told_5 (tgt := 12) (by decide) (by omega) (fun hb5 => ?_) (fun hb5 => False.elim (by exact absurd hb5 (by decide)))
    refine lf_iload_n d_W_told_12 rfl rfl ?_
    refine lf_iconst d_W_told_13 (v := Int32.ofInt ((1 : Nat) : Int)) rfl ?_
    refine gi_icmp_ne d_W_told_14 (tgt := 26) (by decide) (by omega) (fun hb14 => False.elim (by exact absurd hb14 (by decide))) (fun hb14 => ?_)
    refine lf_iload_n d_W_told_17 rfl rfl ?_
    refine lf_iconst d_W_told_18 (v := Int32.ofInt ((1 : Nat) : Int)) rfl ?_
    refine gi_icmp_ne d_W_told_19 (tgt := 26) (by decide) (by omega) (fun hb19 => ?_) (fun hb19 => False.elim (by exact absurd hb19 (by decide)))
    refine lf_iconst d_W_told_26 (v := Int32.ofInt ((2 : Nat) : Int)) rfl ?_
    refine lf_istore_n d_W_told_27 rfl (by decide +kernel) (L2 := [(3, _), (0, _), (1, _), (2, _)]) rfl ?_
    refine lf_iload_n d_W_told_28 rfl rfl ?_
    refine lf_iconst d_W_told_29 (v := Int32.ofInt ((1 : Nat) : Int)) rfl ?_
    refine gi_icmp_eq d_W_told_30 (tgt := 38) (by decide) (by omega) (fun hb30 => ?_) (fun hb30 => False.elim (by exact absurd hb30 (by decide)))
    refine lf_iconst d_W_told_38 (v := Int32.ofInt ((1 : Nat) : Int)) rfl ?_
    refine lf_goto d_W_told_39 (tgt := 55) (by decide) ?_
    refine lf_istore d_W_told_55 (by decide +kernel) (L2 := [(4, _), (3, _), (0, _), (1, _), (2, _)]) rfl ?_
    refine lf_iload_n d_W_told_57 rfl rfl ?_
    refine lf_bipush d_W_told_58 (v := Int32.ofInt ((97 : Nat) : Int)) (by decide +kernel) ?_
    refine gi_icmp_eq d_W_told_60 (tgt := 69) (by decide) (by omega) (fun hb60 => False.elim (by exact absurd hb60 (by decide))) (fun hb60 => ?_)
    refine lf_iload_n d_W_told_63 rfl rfl ?_
    refine lf_bipush d_W_told_64 (v := Int32.ofInt ((110 : Nat) : Int)) (by decide +kernel) ?_
    refine gi_icmp_ne d_W_told_66 (tgt := 73) (by decide) (by omega) (fun hb66 => ?_) (fun hb66 => False.elim (by exact absurd hb66 (by decide)))
    refine lf_iload_n d_W_told_73 rfl rfl ?_
    refine lf_bipush d_W_told_74 (v := Int32.ofInt ((111 : Nat) : Int)) (by decide +kernel) ?_
    refine gi_icmp_eq d_W_told_76 (tgt := 85) (by decide) (by omega) (fun hb76 => False.elim (by exact absurd hb76 (by decide))) (fun hb76 => ?_)
    refine lf_iload_n d_W_told_79 rfl rfl ?_
    refine lf_bipush d_W_told_80 (v := Int32.ofInt ((114 : Nat) : Int)) (by decide +kernel) ?_
    refine gi_icmp_ne d_W_told_82 (tgt := 90) (by decide) (by omega) (fun hb82 => ?_) (fun hb82 => False.elim (by exact absurd hb82 (by decide)))
    refine lf_iload_n d_W_told_90 rfl rfl ?_
    refine lf_bipush d_W_told_91 (v := Int32.ofInt ((120 : Nat) : Int)) (by decide +kernel) ?_
    refine gi_icmp_ne d_W_told_93 (tgt := 116) (by decide) (by omega) (fun hb93 => False.elim (by exact absurd hb93 (by decide))) (fun hb93 => ?_)
    refine lf_iload_n d_W_told_96 rfl rfl ?_
    refine lf_iconst d_W_told_97 (v := Int32.ofInt ((2 : Nat) : Int)) rfl ?_
    refine gi_icmp_eq d_W_told_98 (tgt := 106) (by decide) (by omega) (fun hb98 => False.elim (by exact absurd hb98 (by decide))) (fun hb98 => ?_)
    refine lf_iload_n d_W_told_101 rfl rfl ?_
    refine lf_iconst d_W_told_102 (v := Int32.ofInt ((2 : Nat) : Int)) rfl ?_
    refine gi_icmp_ne d_W_told_103 (tgt := 110) (by decide) (by omega) (fun hb103 => False.elim (by exact absurd hb103 (by decide))) (fun hb103 => ?_)
    refine lf_iconst d_W_told_106 (v := Int32.ofInt ((2 : Nat) : Int)) rfl ?_
    refine lf_goto d_W_told_107 (tgt := 117) (by decide) ?_
    refine lf_istore d_W_told_117 (by decide +kernel) (L2 := [(5, _), (4, _), (3, _), (0, _), (1, _), (2, _)]) rfl ?_
    refine lf_iload d_W_told_119 rfl ?_
    refine lf_iconst d_W_told_121 (v := Int32.ofInt ((2 : Nat) : Int)) rfl ?_
    refine gi_icmp_eq d_W_told_122 (tgt := 143) (by decide) (by omega) (fun hb122 => ?_) (fun hb122 => False.elim (by exact absurd hb122 (by decide)))
    refine lf_iload d_W_told_143 rfl ?_
    refine lf_goto d_W_told_145 (tgt := 152) (by decide) ?_
    refine gw_iret d_W_told_152 rfl ?_
    exact ⟨rfl, rfl, rfl, rfl⟩
  · refine lf_iload_n d_W_told_0 rfl rfl ?_
    refine gi_if_eq d_W_told_1 (tgt := 8) (by decide) (by omega) (fun hb1 => False.elim (by exact absurd hb1 (by decide))) (fun hb1 => ?_)
    refine lf_iload_n d_W_told_4 rfl rfl ?_
    refine gi_if_ne d_W_told_5 (tgt := 12) (by decide) (by omega) (fun hb5 => False.elim (by exact absurd hb5 (by decide))) (fun hb5 => ?_)
    refine lf_iconst d_W_told_8 (v := Int32.ofInt ((0 : Nat) : Int)) rfl ?_
    refine lf_goto d_W_told_9 (tgt := 27) (by decide) ?_
    refine lf_istore_n d_W_told_27 rfl (by decide +kernel) (L2 := [(3, _), (0, _), (1, _), (2, _)]) rfl ?_
    refine lf_iload_n d_W_told_28 rfl rfl ?_
    refine lf_iconst d_W_told_29 (v := Int32.ofInt ((1 : Nat) : Int)) rfl ?_
    refine gi_icmp_eq d_W_told_30 (tgt := 38) (by decide) (by omega) (fun hb30 => False.elim (by exact absurd hb30 (by decide))) (fun hb30 => ?_)
    refine lf_iload_n d_W_told_33 rfl rfl ?_
    refine lf_iconst d_W_told_34 (v := Int32.ofInt ((1 : Nat) : Int)) rfl ?_
    refine gi_icmp_ne d_W_told_35 (tgt := 42) (by decide) (by omega) (fun hb35 => ?_) (fun hb35 => False.elim (by exact absurd hb35 (by decide)))
    refine lf_iload_n d_W_told_42 rfl rfl ?_
    refine gi_if_ne d_W_told_43 (tgt := 54) (by decide) (by omega) (fun hb43 => ?_) (fun hb43 => False.elim (by exact absurd hb43 (by decide)))
    refine lf_iconst d_W_told_54 (v := Int32.ofInt ((2 : Nat) : Int)) rfl ?_
    refine lf_istore d_W_told_55 (by decide +kernel) (L2 := [(4, _), (3, _), (0, _), (1, _), (2, _)]) rfl ?_
    refine lf_iload_n d_W_told_57 rfl rfl ?_
    refine lf_bipush d_W_told_58 (v := Int32.ofInt ((97 : Nat) : Int)) (by decide +kernel) ?_
    refine gi_icmp_eq d_W_told_60 (tgt := 69) (by decide) (by omega) (fun hb60 => False.elim (by exact absurd hb60 (by decide))) (fun hb60 => ?_)
    refine lf_iload_n d_W_told_63 rfl rfl ?_
    refine lf_bipush d_W_told_64 (v := Int32.ofInt ((110 : Nat) : Int)) (by decide +kernel) ?_
    refine gi_icmp_ne d_W_told_66 (tgt := 73) (by decide) (by omega) (fun hb66 => ?_) (fun hb66 => False.elim (by exact absurd hb66 (by decide)))
    refine lf_iload_n d_W_told_73 rfl rfl ?_
    refine lf_bipush d_W_told_74 (v := Int32.ofInt ((111 : Nat) : Int)) (by decide +kernel) ?_
    refine gi_icmp_eq d_W_told_76 (tgt := 85) (by decide) (by omega) (fun hb76 => False.elim (by exact absurd hb76 (by decide))) (fun hb76 => ?_)
    refine lf_iload_n d_W_told_79 rfl rfl ?_
    refine lf_bipush d_W_told_80 (v := Int32.ofInt ((114 : Nat) : Int)) (by decide +kernel) ?_
    refine gi_icmp_ne d_W_told_82 (tgt := 90) (by decide) (by omega) (fun hb82 => ?_) (fun hb82 => False.elim (by exact absurd hb82 (by decide)))
    refine lf_iload_n d_W_told_90 rfl rfl ?_
    refine lf_bipush d_W_told_91 (v := Int32.ofInt ((120 : Nat) : Int)) (by decide +kernel) ?_
    refine gi_icmp_ne d_W_told_93 (tgt := 116) (by decide) (by omega) (fun hb93 => False.elim (by exact absurd hb93 (by decide))) (fun hb93 => ?_)
    refine lf_iload_n d_W_told_96 rfl rfl ?_
    refine lf_iconst d_W_told_97 (v := Int32.ofInt ((2 : Nat) : Int)) rfl ?_
    refine gi_icmp_eq d_W_told_98 (tgt := 106) (by decide) (by omega) (fun hb98 => ?_) (fun hb98 => False.elim (by exact absurd hb98 (by decide)))
    refine lf_iconst d_W_told_106 (v := Int32.ofInt ((2 : Nat) : Int)) rfl ?_
    refine lf_goto d_W_told_107 (tgt := 117) (by decide) ?_
    refine lf_istore d_W_told_117 (by decide +kernel) (L2 := [(5, _), (4, _), (3, _), (0, _), (1, _), (2, _)]) rfl ?_
    refine lf_iload d_W_told_119 rfl ?_
    refine lf_iconst d_W_told_121 (v := Int32.ofInt ((2 : Nat) : Int)) rfl ?_
    refine gi_icmp_eq d_W_told_122 (tgt := 143) (by decide) (by omega) (fun hb122 => ?_) (fun hb122 => False.elim (by exact absurd hb122 (by decide)))
    refine lf_iload d_W_told_143 rfl ?_
    refine lf_goto d_W_told_145 (tgt := 152) (by decide) ?_
    refine gw_iret d_W_told_152 rfl ?_
    exact ⟨rfl, rfl, rfl, rfl⟩
  · refine lf_iload_n d_W_told_0 rfl rfl ?_
    refine gi_if_eq d_W_told_1 (tgt := 8) (by decide) (by omega) (fun hb1 => False.elim (by exact absurd hb1 (by decide))) (fun hb1 => ?_)
    refine lf_iload_n d_W_told_4 rfl rfl ?_
    refine gi_if_ne d_W_told_5 (tgt := 12) (by decide) (by omega) (fun hb5 => ?_) (fun hb5 => False.elim (by exact absurd hb5 (by decide)))
    refine lf_iload_n d_W_told_12 rfl rfl ?_
    refine lf_iconst d_W_told_13 (v := Int32.ofInt ((1 : Nat) : Int)) rfl ?_
    refine gi_icmp_ne d_W_told_14 (tgt := 26) (by decide) (by omega) (fun hb14 => ?_) (fun hb14 => False.elim (by exact absurd hb14 (by decide)))
    refine lf_iconst d_W_told_26 (v := Int32.ofInt ((2 : Nat) : Int)) rfl ?_
    refine lf_istore_n d_W_told_27 rfl (by decide +kernel) (L2 := [(3, _), (0, _), (1, _), (2, _)]) rfl ?_
    refine lf_iload_n d_W_told_28 rfl rfl ?_
    refine lf_iconst d_W_told_29 (v := Int32.ofInt ((1 : Nat) : Int)) rfl ?_
    refine gi_icmp_eq d_W_told_30 (tgt := 38) (by decide) (by omega) (fun hb30 => False.elim (by exact absurd hb30 (by decide))) (fun hb30 => ?_)
    refine lf_iload_n d_W_told_33 rfl rfl ?_
    refine lf_iconst d_W_told_34 (v := Int32.ofInt ((1 : Nat) : Int)) rfl ?_
    refine gi_icmp_ne d_W_told_35 (tgt := 42) (by decide) (by omega) (fun hb35 => False.elim (by exact absurd hb35 (by decide))) (fun hb35 => ?_)
    refine lf_iconst d_W_told_38 (v := Int32.ofInt ((1 : Nat) : Int)) rfl ?_
    refine lf_goto d_W_told_39 (tgt := 55) (by decide) ?_
    refine lf_istore d_W_told_55 (by decide +kernel) (L2 := [(4, _), (3, _), (0, _), (1, _), (2, _)]) rfl ?_
    refine lf_iload_n d_W_told_57 rfl rfl ?_
    refine lf_bipush d_W_told_58 (v := Int32.ofInt ((97 : Nat) : Int)) (by decide +kernel) ?_
    refine gi_icmp_eq d_W_told_60 (tgt := 69) (by decide) (by omega) (fun hb60 => False.elim (by exact absurd hb60 (by decide))) (fun hb60 => ?_)
    refine lf_iload_n d_W_told_63 rfl rfl ?_
    refine lf_bipush d_W_told_64 (v := Int32.ofInt ((110 : Nat) : Int)) (by decide +kernel) ?_
    refine gi_icmp_ne d_W_told_66 (tgt := 73) (by decide) (by omega) (fun hb66 => ?_) (fun hb66 => False.elim (by exact absurd hb66 (by decide)))
    refine lf_iload_n d_W_told_73 rfl rfl ?_
    refine lf_bipush d_W_told_74 (v := Int32.ofInt ((111 : Nat) : Int)) (by decide +kernel) ?_
    refine gi_icmp_eq d_W_told_76 (tgt := 85) (by decide) (by omega) (fun hb76 => False.elim (by exact absurd hb76 (by decide))) (fun hb76 => ?_)
    refine lf_iload_n d_W_told_79 rfl rfl ?_
    refine lf_bipush d_W_told_80 (v := Int32.ofInt ((114 : Nat) : Int)) (by decide +kernel) ?_
    refine gi_icmp_ne d_W_told_82 (tgt := 90) (by decide) (by omega) (fun hb82 => ?_) (fun hb82 => False.elim (by exact absurd hb82 (by decide)))
    refine lf_iload_n d_W_told_90 rfl rfl ?_
    refine lf_bipush d_W_told_91 (v := Int32.ofInt ((120 : Nat) : Int)) (by decide +kernel) ?_
    refine gi_icmp_ne d_W_told_93 (tgt := 116) (by decide) (by omega) (fun hb93 => False.elim (by exact absurd hb93 (by decide))) (fun hb93 => ?_)
    refine lf_iload_n d_W_told_96 rfl rfl ?_
    refine lf_iconst d_W_told_97 (v := Int32.ofInt ((2 : Nat) : Int)) rfl ?_
    refine gi_icmp_eq d_W_told_98 (tgt := 106) (by decide) (by omega) (fun hb98 => ?_) (fun hb98 => False.elim (by exact absurd hb98 (by decide)))
    refine lf_iconst d_W_told_106 (v := Int32.ofInt ((2 : Nat) : Int)) rfl ?_
    refine lf_goto d_W_told_107 (tgt := 117) (by decide) ?_
    refine lf_istore d_W_told_117 (by decide +kernel) (L2 := [(5, _), (4, _), (3, _), (0, _), (1, _), (2, _)]) rfl ?_
    refine lf_iload d_W_told_119 rfl ?_
    refine lf_iconst d_W_told_121 (v := Int32.ofInt ((2 : Nat) : Int)) rfl ?_
    refine gi_icmp_eq d_W_told_122 (tgt := 143) (by decide) (by omega) (fun hb122 => ?_) (fun hb122 => False.elim (by exact absurd hb122 (by decide)))
    refine lf_iload d_W_told_143 rfl ?_
    refine lf_goto d_W_told_145 (tgt := 152) (by decide) ?_
    refine gw_iret d_W_told_152 rfl ?_
    exact ⟨rfl, rfl, rfl, rfl⟩
  · refine lf_iload_n d_W_told_0 rfl rfl ?_
    refine gi_if_eq d_W_told_1 (tgt := 8) (by decide) (by omega) (fun hb1 => False.elim (by exact absurd hb1 (by decide))) (fun hb1 => ?_)
    refine lf_iload_n d_W_told_4 rfl rfl ?_
    refine gi_if_ne d_W_told_5 (tgt := 12) (by decide) (by omega) (fun hb5 => ?_) (fun hb5 => False.elim (by exact absurd hb5 (by decide)))
    refine lf_iload_n d_W_told_12 rfl rfl ?_
    refine lf_iconst d_W_told_13 (v := Int32.ofInt ((1 : Nat) : Int)) rfl ?_
    refine gi_icmp_ne d_W_told_14 (tgt := 26) (by decide) (by omega) (fun hb14 => ?_) (fun hb14 => False.elim (by exact absurd hb14 (by decide)))
    refine lf_iconst d_W_told_26 (v := Int32.ofInt ((2 : Nat) : Int)) rfl ?_
    refine lf_istore_n d_W_told_27 rfl (by decide +kernel) (L2 := [(3, _), (0, _), (1, _), (2, _)]) rfl ?_
    refine lf_iload_n d_W_told_28 rfl rfl ?_
    refine lf_iconst d_W_told_29 (v := Int32.ofInt ((1 : Nat) : Int)) rfl ?_
    refine gi_icmp_eq d_W_told_30 (tgt := 38) (by decide) (by omega) (fun hb30 => False.elim (by exact absurd hb30 (by decide))) (fun hb30 => ?_)
    refine lf_iload_n d_W_told_33 rfl rfl ?_
    refine lf_iconst d_W_told_34 (v := Int32.ofInt ((1 : Nat) : Int)) rfl ?_
    refine gi_icmp_ne d_W_told_35 (tgt := 42) (by decide) (by omega) (fun hb35 => ?_) (fun hb35 => False.elim (by exact absurd hb35 (by decide)))
    refine lf_iload_n d_W_told_42 rfl rfl ?_
    refine gi_if_ne d_W_told_43 (tgt := 54) (by decide) (by omega) (fun hb43 => ?_) (fun hb43 => False.elim (by exact absurd hb43 (by decide)))
    refine lf_iconst d_W_told_54 (v := Int32.ofInt ((2 : Nat) : Int)) rfl ?_
    refine lf_istore d_W_told_55 (by decide +kernel) (L2 := [(4, _), (3, _), (0, _), (1, _), (2, _)]) rfl ?_
    refine lf_iload_n d_W_told_57 rfl rfl ?_
    refine lf_bipush d_W_told_58 (v := Int32.ofInt ((97 : Nat) : Int)) (by decide +kernel) ?_
    refine gi_icmp_eq d_W_told_60 (tgt := 69) (by decide) (by omega) (fun hb60 => False.elim (by exact absurd hb60 (by decide))) (fun hb60 => ?_)
    refine lf_iload_n d_W_told_63 rfl rfl ?_
    refine lf_bipush d_W_told_64 (v := Int32.ofInt ((110 : Nat) : Int)) (by decide +kernel) ?_
    refine gi_icmp_ne d_W_told_66 (tgt := 73) (by decide) (by omega) (fun hb66 => ?_) (fun hb66 => False.elim (by exact absurd hb66 (by decide)))
    refine lf_iload_n d_W_told_73 rfl rfl ?_
    refine lf_bipush d_W_told_74 (v := Int32.ofInt ((111 : Nat) : Int)) (by decide +kernel) ?_
    refine gi_icmp_eq d_W_told_76 (tgt := 85) (by decide) (by omega) (fun hb76 => False.elim (by exact absurd hb76 (by decide))) (fun hb76 => ?_)
    refine lf_iload_n d_W_told_79 rfl rfl ?_
    refine lf_bipush d_W_told_80 (v := Int32.ofInt ((114 : Nat) : Int)) (by decide +kernel) ?_
    refine gi_icmp_ne d_W_told_82 (tgt := 90) (by decide) (by omega) (fun hb82 => ?_) (fun hb82 => False.elim (by exact absurd hb82 (by decide)))
    refine lf_iload_n d_W_told_90 rfl rfl ?_
    refine lf_bipush d_W_told_91 (v := Int32.ofInt ((120 : Nat) : Int)) (by decide +kernel) ?_
    refine gi_icmp_ne d_W_told_93 (tgt := 116) (by decide) (by omega) (fun hb93 => False.elim (by exact absurd hb93 (by decide))) (fun hb93 => ?_)
    refine lf_iload_n d_W_told_96 rfl rfl ?_
    refine lf_iconst d_W_told_97 (v := Int32.ofInt ((2 : Nat) : Int)) rfl ?_
    refine gi_icmp_eq d_W_told_98 (tgt := 106) (by decide) (by omega) (fun hb98 => ?_) (fun hb98 => False.elim (by exact absurd hb98 (by decide)))
    refine lf_iconst d_W_told_106 (v := Int32.ofInt ((2 : Nat) : Int)) rfl ?_
    refine lf_goto d_W_told_107 (tgt := 117) (by decide) ?_
    refine lf_istore d_W_told_117 (by decide +kernel) (L2 := [(5, _), (4, _), (3, _), (0, _), (1, _), (2, _)]) rfl ?_
    refine lf_iload d_W_told_119 rfl ?_
    refine lf_iconst d_W_told_121 (v := Int32.ofInt ((2 : Nat) : Int)) rfl ?_
    refine gi_icmp_eq d_W_told_122 (tgt := 143) (by decide) (by omega) (fun hb122 => ?_) (fun hb122 => False.elim (by exact absurd hb122 (by decide)))
    refine lf_iload d_W_told_143 rfl ?_
    refine lf_goto d_W_told_145 (tgt := 152) (by decide) ?_
    refine gw_iret d_W_told_152 rfl ?_
    exact ⟨rfl, rfl, rfl, rfl⟩
theorem w_told118 (hx : HX X L9 xs) {a b : Nat} (ha : a ≤ 2) (hb : b ≤ 2) : EVp TT cl6 X mi_W_told 0 [.int (Int32.ofInt ((118 : Nat) : Int)), .int (Int32.ofInt ((a : Nat) : Int)), .int (Int32.ofInt ((b : Nat) : Int))] sh I J (.int (Int32.ofInt ((tldN 118 a b : Nat) : Int))) := by
  have h9 : (a = 0 ∨ a = 1 ∨ a = 2) ∧ (b = 0 ∨ b = 1 ∨ b = 2) := by omega
  obtain ⟨h1, h2⟩ := h9
  refine gw_enter (hx_ok hx) (by decide +kernel) (Nat.le_of_ble_eq_true rfl) (L := [(0, _), (1, _), (2, _)]) rfl ?_
  rcases h1 with rfl | rfl | rfl <;> rcases h2 with rfl | rfl | rfl
  · refine lf_iload_n d_W_told_0 rfl rfl ?_
    refine gi_if_eq d_W_told_1 (tgt := 8) (by decide) (by omega) (fun hb1 => ?_) (fun hb1 => False.elim (by exact absurd hb1 (by decide)))
    refine lf_iconst d_W_told_8 (v := Int32.ofInt ((0 : Nat) : Int)) rfl ?_
    refine lf_goto d_W_told_9 (tgt := 27) (by decide) ?_
    refine lf_istore_n d_W_told_27 rfl (by decide +kernel) (L2 := [(3, _), (0, _), (1, _), (2, _)]) rfl ?_
    refine lf_iload_n d_W_told_28 rfl rfl ?_
    refine lf_iconst d_W_told_29 (v := Int32.ofInt ((1 : Nat) : Int)) rfl ?_
    refine gi_icmp_eq d_W_told_30 (tgt := 38) (by decide) (by omega) (fun hb30 => False.elim (by exact absurd hb30 (by decide))) (fun hb30 => ?_)
    refine lf_iload_n d_W_told_33 rfl rfl ?_
    refine lf_iconst d_W_told_34 (v := Int32.ofInt ((1 : Nat) : Int)) rfl ?_
    refine gi_icmp_ne d_W_told_35 (tgt := 42) (by decide) (by omega) (fun hb35 => ?_) (fun hb35 => False.elim (by exact absurd hb35 (by decide)))
    refine lf_iload_n d_W_told_42 rfl rfl ?_
    refine gi_if_ne d_W_told_43 (tgt := 54) (by decide) (by omega) (fun hb43 => False.elim (by exact absurd hb43 (by decide))) (fun hb43 => ?_)
    refine lf_iload_n d_W_told_46 rfl rfl ?_
    refine gi_if_ne d_W_told_47 (tgt := 54) (by decide) (by omega) (fun hb47 => False.elim (by exact absurd hb47 (by decide))) (fun hb47 => ?_)
    refine lf_iconst d_W_told_50 (v := Int32.ofInt ((0 : Nat) : Int)) rfl ?_
    refine lf_goto d_W_told_51 (tgt := 55) (by decide) ?_
    refine lf_istore d_W_told_55 (by decide +kernel) (L2 := [(4, _), (3, _), (0, _), (1, _), (2, _)]) rfl ?_
    refine lf_iload_n d_W_told_57 rfl rfl ?_
    refine lf_bipush d_W_told_58 (v := Int32.ofInt ((97 : Nat) : Int)) (by decide +kernel) ?_
    refine gi_icmp_eq d_W_told_60 (tgt := 69) (by decide) (by omega) (fun hb60 => False.elim (by exact absurd hb60 (by decide))) (fun hb60 => ?_)
    refine lf_iload_n d_W_told_63 rfl rfl ?_
    refine lf_bipush d_W_told_64 (v := Int32.ofInt ((110 : Nat) : Int)) (by decide +kernel) ?_
    refine gi_icmp_ne d_W_told_66 (tgt := 73) (by decide) (by omega) (fun hb66 => ?_) (fun hb66 => False.elim (by exact absurd hb66 (by decide)))
    refine lf_iload_n d_W_told_73 rfl rfl ?_
    refine lf_bipush d_W_told_74 (v := Int32.ofInt ((111 : Nat) : Int)) (by decide +kernel) ?_
    refine gi_icmp_eq d_W_told_76 (tgt := 85) (by decide) (by omega) (fun hb76 => False.elim (by exact absurd hb76 (by decide))) (fun hb76 => ?_)
    refine lf_iload_n d_W_told_79 rfl rfl ?_
    refine lf_bipush d_W_told_80 (v := Int32.ofInt ((114 : Nat) : Int)) (by decide +kernel) ?_
    refine gi_icmp_ne d_W_told_82 (tgt := 90) (by decide) (by omega) (fun hb82 => ?_) (fun hb82 => False.elim (by exact absurd hb82 (by decide)))
    refine lf_iload_n d_W_told_90 rfl rfl ?_
    refine lf_bipush d_W_told_91 (v := Int32.ofInt ((120 : Nat) : Int)) (by decide +kernel) ?_
    refine gi_icmp_ne d_W_told_93 (tgt := 116) (by decide) (by omega) (fun hb93 => ?_) (fun hb93 => False.elim (by exact absurd hb93 (by decide)))
    refine lf_iload_n d_W_told_116 rfl rfl ?_
    refine lf_istore d_W_told_117 (by decide +kernel) (L2 := [(5, _), (4, _), (3, _), (0, _), (1, _), (2, _)]) rfl ?_
    refine lf_iload d_W_told_119 rfl ?_
    refine lf_iconst d_W_told_121 (v := Int32.ofInt ((2 : Nat) : Int)) rfl ?_
    refine gi_icmp_eq d_W_told_122 (tgt := 143) (by decide) (by omega) (fun hb122 => False.elim (by exact absurd hb122 (by decide))) (fun hb122 => ?_)
    refine lf_iload_n d_W_told_125 rfl rfl ?_
    refine lf_bipush d_W_told_126 (v := Int32.ofInt ((110 : Nat) : Int)) (by decide +kernel) ?_
    refine gi_icmp_eq d_W_told_128 (tgt := 148) (by decide) (by omega) (fun hb128 => False.elim (by exact absurd hb128 (by decide))) (fun hb128 => ?_)
    refine lf_iload_n d_W_told_131 rfl rfl ?_
    refine lf_bipush d_W_told_132 (v := Int32.ofInt ((114 : Nat) : Int)) (by decide +kernel) ?_
    refine gi_icmp_eq d_W_told_134 (tgt := 148) (by decide) (by omega) (fun hb134 => False.elim (by exact absurd hb134 (by decide))) (fun hb134 => ?_)
    refine lf_iload_n d_W_told_137 rfl rfl ?_
    refine lf_bipush d_W_told_138 (v := Int32.ofInt ((118 : Nat) : Int)) (by decide +kernel) ?_
    refine gi_icmp_eq d_W_told_140 (tgt := 148) (by decide) (by omega) (fun hb140 => ?_) (fun hb140 => False.elim (by exact absurd hb140 (by decide)))
    refine lf_iconst d_W_told_148 (v := Int32.ofInt ((1 : Nat) : Int)) rfl ?_
    refine lf_iload d_W_told_149 rfl ?_
    refine gi_isubN (a := 1) (b := 0) d_W_told_151 (by omega) ?_
    refine gw_iret d_W_told_152 rfl ?_
    exact ⟨rfl, rfl, rfl, rfl⟩
  · refine lf_iload_n d_W_told_0 rfl rfl ?_
    refine gi_if_eq d_W_told_1 (tgt := 8) (by decide) (by omega) (fun hb1 => ?_) (fun hb1 => False.elim (by exact absurd hb1 (by decide)))
    refine lf_iconst d_W_told_8 (v := Int32.ofInt ((0 : Nat) : Int)) rfl ?_
    refine lf_goto d_W_told_9 (tgt := 27) (by decide) ?_
    refine lf_istore_n d_W_told_27 rfl (by decide +kernel) (L2 := [(3, _), (0, _), (1, _), (2, _)]) rfl ?_
    refine lf_iload_n d_W_told_28 rfl rfl ?_
    refine lf_iconst d_W_told_29 (v := Int32.ofInt ((1 : Nat) : Int)) rfl ?_
    refine gi_icmp_eq d_W_told_30 (tgt := 38) (by decide) (by omega) (fun hb30 => False.elim (by exact absurd hb30 (by decide))) (fun hb30 => ?_)
    refine lf_iload_n d_W_told_33 rfl rfl ?_
    refine lf_iconst d_W_told_34 (v := Int32.ofInt ((1 : Nat) : Int)) rfl ?_
    refine gi_icmp_ne d_W_told_35 (tgt := 42) (by decide) (by omega) (fun hb35 => False.elim (by exact absurd hb35 (by decide))) (fun hb35 => ?_)
    refine lf_iconst d_W_told_38 (v := Int32.ofInt ((1 : Nat) : Int)) rfl ?_
    refine lf_goto d_W_told_39 (tgt := 55) (by decide) ?_
    refine lf_istore d_W_told_55 (by decide +kernel) (L2 := [(4, _), (3, _), (0, _), (1, _), (2, _)]) rfl ?_
    refine lf_iload_n d_W_told_57 rfl rfl ?_
    refine lf_bipush d_W_told_58 (v := Int32.ofInt ((97 : Nat) : Int)) (by decide +kernel) ?_
    refine gi_icmp_eq d_W_told_60 (tgt := 69) (by decide) (by omega) (fun hb60 => False.elim (by exact absurd hb60 (by decide))) (fun hb60 => ?_)
    refine lf_iload_n d_W_told_63 rfl rfl ?_
    refine lf_bipush d_W_told_64 (v := Int32.ofInt ((110 : Nat) : Int)) (by decide +kernel) ?_
    refine gi_icmp_ne d_W_told_66 (tgt := 73) (by decide) (by omega) (fun hb66 => ?_) (fun hb66 => False.elim (by exact absurd hb66 (by decide)))
    refine lf_iload_n d_W_told_73 rfl rfl ?_
    refine lf_bipush d_W_told_74 (v := Int32.ofInt ((111 : Nat) : Int)) (by decide +kernel) ?_
    refine gi_icmp_eq d_W_told_76 (tgt := 85) (by decide) (by omega) (fun hb76 => False.elim (by exact absurd hb76 (by decide))) (fun hb76 => ?_)
    refine lf_iload_n d_W_told_79 rfl rfl ?_
    refine lf_bipush d_W_told_80 (v := Int32.ofInt ((114 : Nat) : Int)) (by decide +kernel) ?_
    refine gi_icmp_ne d_W_told_82 (tgt := 90) (by decide) (by omega) (fun hb82 => ?_) (fun hb82 => False.elim (by exact absurd hb82 (by decide)))
    refine lf_iload_n d_W_told_90 rfl rfl ?_
    refine lf_bipush d_W_told_91 (v := Int32.ofInt ((120 : Nat) : Int)) (by decide +kernel) ?_
    refine gi_icmp_ne d_W_told_93 (tgt := 116) (by decide) (by omega) (fun hb93 => ?_) (fun hb93 => False.elim (by exact absurd hb93 (by decide)))
    refine lf_iload_n d_W_told_116 rfl rfl ?_
    refine lf_istore d_W_told_117 (by decide +kernel) (L2 := [(5, _), (4, _), (3, _), (0, _), (1, _), (2, _)]) rfl ?_
    refine lf_iload d_W_told_119 rfl ?_
    refine lf_iconst d_W_told_121 (v := Int32.ofInt ((2 : Nat) : Int)) rfl ?_
    refine gi_icmp_eq d_W_told_122 (tgt := 143) (by decide) (by omega) (fun hb122 => False.elim (by exact absurd hb122 (by decide))) (fun hb122 => ?_)
    refine lf_iload_n d_W_told_125 rfl rfl ?_
    refine lf_bipush d_W_told_126 (v := Int32.ofInt ((110 : Nat) : Int)) (by decide +kernel) ?_
    refine gi_icmp_eq d_W_told_128 (tgt := 148) (by decide) (by omega) (fun hb128 => False.elim (by exact absurd hb128 (by decide))) (fun hb128 => ?_)
    refine lf_iload_n d_W_told_131 rfl rfl ?_
    refine lf_bipush d_W_told_132 (v := Int32.ofInt ((114 : Nat) : Int)) (by decide +kernel) ?_
    refine gi_icmp_eq d_W_told_134 (tgt := 148) (by decide) (by omega) (fun hb134 => False.elim (by exact absurd hb134 (by decide))) (fun hb134 => ?_)
    refine lf_iload_n d_W_told_137 rfl rfl ?_
    refine lf_bipush d_W_told_138 (v := Int32.ofInt ((118 : Nat) : Int)) (by decide +kernel) ?_
    refine gi_icmp_eq d_W_told_140 (tgt := 148) (by decide) (by omega) (fun hb140 => ?_) (fun hb140 => False.elim (by exact absurd hb140 (by decide)))
    refine lf_iconst d_W_told_148 (v := Int32.ofInt ((1 : Nat) : Int)) rfl ?_
    refine lf_iload d_W_told_149 rfl ?_
    refine gi_isubN (a := 1) (b := 0) d_W_told_151 (by omega) ?_
    refine gw_iret d_W_told_152 rfl ?_
    exact ⟨rfl, rfl, rfl, rfl⟩
  · refine lf_iload_n d_W_told_0 rfl rfl ?_
    refine gi_if_eq d_W_told_1 (tgt := 8) (by decide) (by omega) (fun hb1 => ?_) (fun hb1 => False.elim (by exact absurd hb1 (by decide)))
    refine lf_iconst d_W_told_8 (v := Int32.ofInt ((0 : Nat) : Int)) rfl ?_
    refine lf_goto d_W_told_9 (tgt := 27) (by decide) ?_
    refine lf_istore_n d_W_told_27 rfl (by decide +kernel) (L2 := [(3, _), (0, _), (1, _), (2, _)]) rfl ?_
    refine lf_iload_n d_W_told_28 rfl rfl ?_
    refine lf_iconst d_W_told_29 (v := Int32.ofInt ((1 : Nat) : Int)) rfl ?_
    refine gi_icmp_eq d_W_told_30 (tgt := 38) (by decide) (by omega) (fun hb30 => False.elim (by exact absurd hb30 (by decide))) (fun hb30 => ?_)
    refine lf_iload_n d_W_told_33 rfl rfl ?_
    refine lf_iconst d_W_told_34 (v := Int32.ofInt ((1 : Nat) : Int)) rfl ?_
    refine gi_icmp_ne d_W_told_35 (tgt := 42) (by decide) (by omega) (fun hb35 => ?_) (fun hb35 => False.elim (by exact absurd hb35 (by decide)))
    refine lf_iload_n d_W_told_42 rfl rfl ?_
    refine gi_if_ne d_W_told_43 (tgt := 54) (by decide) (by omega) (fun hb43 => False.elim (by exact absurd hb43 (by decide))) (fun hb43 => ?_)
    refine lf_iload_n d_W_told_46 rfl rfl ?_
    refine gi_if_ne d_W_told_47 (tgt := 54) (by decide) (by omega) (fun hb47 => ?_) (fun hb47 => False.elim (by exact absurd hb47 (by decide)))
    refine lf_iconst d_W_told_54 (v := Int32.ofInt ((2 : Nat) : Int)) rfl ?_
    refine lf_istore d_W_told_55 (by decide +kernel) (L2 := [(4, _), (3, _), (0, _), (1, _), (2, _)]) rfl ?_
    refine lf_iload_n d_W_told_57 rfl rfl ?_
    refine lf_bipush d_W_told_58 (v := Int32.ofInt ((97 : Nat) : Int)) (by decide +kernel) ?_
    refine gi_icmp_eq d_W_told_60 (tgt := 69) (by decide) (by omega) (fun hb60 => False.elim (by exact absurd hb60 (by decide))) (fun hb60 => ?_)
    refine lf_iload_n d_W_told_63 rfl rfl ?_
    refine lf_bipush d_W_told_64 (v := Int32.ofInt ((110 : Nat) : Int)) (by decide +kernel) ?_
    refine gi_icmp_ne d_W_told_66 (tgt := 73) (by decide) (by omega) (fun hb66 => ?_) (fun hb66 => False.elim (by exact absurd hb66 (by decide)))
    refine lf_iload_n d_W_told_73 rfl rfl ?_
    refine lf_bipush d_W_told_74 (v := Int32.ofInt ((111 : Nat) : Int)) (by decide +kernel) ?_
    refine gi_icmp_eq d_W_told_76 (tgt := 85) (by decide) (by omega) (fun hb76 => False.elim (by exact absurd hb76 (by decide))) (fun hb76 => ?_)
    refine lf_iload_n d_W_told_79 rfl rfl ?_
    refine lf_bipush d_W_told_80 (v := Int32.ofInt ((114 : Nat) : Int)) (by decide +kernel) ?_
    refine gi_icmp_ne d_W_told_82 (tgt := 90) (by decide) (by omega) (fun hb82 => ?_) (fun hb82 => False.elim (by exact absurd hb82 (by decide)))
    refine lf_iload_n d_W_told_90 rfl rfl ?_
    refine lf_bipush d_W_told_91 (v := Int32.ofInt ((120 : Nat) : Int)) (by decide +kernel) ?_
    refine gi_icmp_ne d_W_told_93 (tgt := 116) (by decide) (by omega) (fun hb93 => ?_) (fun hb93 => False.elim (by exact absurd hb93 (by decide)))
    refine lf_iload_n d_W_told_116 rfl rfl ?_
    refine lf_istore d_W_told_117 (by decide +kernel) (L2 := [(5, _), (4, _), (3, _), (0, _), (1, _), (2, _)]) rfl ?_
    refine lf_iload d_W_told_119 rfl ?_
    refine lf_iconst d_W_told_121 (v := Int32.ofInt ((2 : Nat) : Int)) rfl ?_
    refine gi_icmp_eq d_W_told_122 (tgt := 143) (by decide) (by omega) (fun hb122 => False.elim (by exact absurd hb122 (by decide))) (fun hb122 => ?_)
    refine lf_iload_n d_W_told_125 rfl rfl ?_
    refine lf_bipush d_W_told_126 (v := Int32.ofInt ((110 : Nat) : Int)) (by decide +kernel) ?_
    refine gi_icmp_eq d_W_told_128 (tgt := 148) (by decide) (by omega) (fun hb128 => False.elim (by exact absurd hb128 (by decide))) (fun hb128 => ?_)
    refine lf_iload_n d_W_told_131 rfl rfl ?_
    refine lf_bipush d_W_told_132 (v := Int32.ofInt ((114 : Nat) : Int)) (by decide +kernel) ?_
    refine gi_icmp_eq d_W_told_134 (tgt := 148) (by decide) (by omega) (fun hb134 => False.elim (by exact absurd hb134 (by decide))) (fun hb134 => ?_)
    refine lf_iload_n d_W_told_137 rfl rfl ?_
    refine lf_bipush d_W_told_138 (v := Int32.ofInt ((118 : Nat) : Int)) (by decide +kernel) ?_
    refine gi_icmp_eq d_W_told_140 (tgt := 148) (by decide) (by omega) (fun hb140 => ?_) (fun hb140 => False.elim (by exact absurd hb140 (by decide)))
    refine lf_iconst d_W_told_148 (v := Int32.ofInt ((1 : Nat) : Int)) rfl ?_
    refine lf_iload d_W_told_149 rfl ?_
    refine gi_isubN (a := 1) (b := 0) d_W_told_151 (by omega) ?_
    refine gw_iret d_W_told_152 rfl ?_
    exact ⟨rfl, rfl, rfl, rfl⟩
  · refine lf_iload_n d_W_told_0 rfl rfl ?_
    refine gi_if_eq d_W_told_1 (tgt := 8) (by decide) (by omega) (fun hb1 => False.elim (by exact absurd hb1 (by decide))) (fun hb1 => ?_)
    refine lf_iload_n d_W_told_4 rfl rfl ?_
    refine gi_if_ne d_W_told_5 (tgt := 12) (by decide) (by omega) (fun hb5 => False.elim (by exact absurd hb5 (by decide))) (fun hb5 => ?_)
    refine lf_iconst d_W_told_8 (v := Int32.ofInt ((0 : Nat) : Int)) rfl ?_
    refine lf_goto d_W_told_9 (tgt := 27) (by decide) ?_
    refine lf_istore_n d_W_told_27 rfl (by decide +kernel) (L2 := [(3, _), (0, _), (1, _), (2, _)]) rfl ?_
    refine lf_iload_n d_W_told_28 rfl rfl ?_
    refine lf_iconst d_W_told_29 (v := Int32.ofInt ((1 : Nat) : Int)) rfl ?_
    refine gi_icmp_eq d_W_told_30 (tgt := 38) (by decide) (by omega) (fun hb30 => ?_) (fun hb30 => False.elim (by exact absurd hb30 (by decide)))
    refine lf_iconst d_W_told_38 (v := Int32.ofInt ((1 : Nat) : Int)) rfl ?_
    refine lf_goto d_W_told_39 (tgt := 55) (by decide) ?_
    refine lf_istore d_W_told_55 (by decide +kernel) (L2 := [(4, _), (3, _), (0, _), (1, _), (2, _)]) rfl ?_
    refine lf_iload_n d_W_told_57 rfl rfl ?_
    refine lf_bipush d_W_told_58 (v := Int32.ofInt ((97 : Nat) : Int)) (by decide +kernel) ?_
    refine gi_icmp_eq d_W_told_60 (tgt := 69) (by decide) (by omega) (fun hb60 => False.elim (by exact absurd hb60 (by decide))) (fun hb60 => ?_)
    refine lf_iload_n d_W_told_63 rfl rfl ?_
    refine lf_bipush d_W_told_64 (v := Int32.ofInt ((110 : Nat) : Int)) (by decide +kernel) ?_
    refine gi_icmp_ne d_W_told_66 (tgt := 73) (by decide) (by omega) (fun hb66 => ?_) (fun hb66 => False.elim (by exact absurd hb66 (by decide)))
    refine lf_iload_n d_W_told_73 rfl rfl ?_
    refine lf_bipush d_W_told_74 (v := Int32.ofInt ((111 : Nat) : Int)) (by decide +kernel) ?_
    refine gi_icmp_eq d_W_told_76 (tgt := 85) (by decide) (by omega) (fun hb76 => False.elim (by exact absurd hb76 (by decide))) (fun hb76 => ?_)
    refine lf_iload_n d_W_told_79 rfl rfl ?_
    refine lf_bipush d_W_told_80 (v := Int32.ofInt ((114 : Nat) : Int)) (by decide +kernel) ?_
    refine gi_icmp_ne d_W_told_82 (tgt := 90) (by decide) (by omega) (fun hb82 => ?_) (fun hb82 => False.elim (by exact absurd hb82 (by decide)))
    refine lf_iload_n d_W_told_90 rfl rfl ?_
    refine lf_bipush d_W_told_91 (v := Int32.ofInt ((120 : Nat) : Int)) (by decide +kernel) ?_
    refine gi_icmp_ne d_W_told_93 (tgt := 116) (by decide) (by omega) (fun hb93 => ?_) (fun hb93 => False.elim (by exact absurd hb93 (by decide)))
    refine lf_iload_n d_W_told_116 rfl rfl ?_
    refine lf_istore d_W_told_117 (by decide +kernel) (L2 := [(5, _), (4, _), (3, _), (0, _), (1, _), (2, _)]) rfl ?_
    refine lf_iload d_W_told_119 rfl ?_
    refine lf_iconst d_W_told_121 (v := Int32.ofInt ((2 : Nat) : Int)) rfl ?_
    refine gi_icmp_eq d_W_told_122 (tgt := 143) (by decide) (by omega) (fun hb122 => False.elim (by exact absurd hb122 (by decide))) (fun hb122 => ?_)
    refine lf_iload_n d_W_told_125 rfl rfl ?_
    refine lf_bipush d_W_told_126 (v := Int32.ofInt ((110 : Nat) : Int)) (by decide +kernel) ?_
    refine gi_icmp_eq d_W_told_128 (tgt := 148) (by decide) (by omega) (fun hb128 => False.elim (by exact absurd hb128 (by decide))) (fun hb128 => ?_)
    refine lf_iload_n d_W_told_131 rfl rfl ?_
    refine lf_bipush d_W_told_132 (v := Int32.ofInt ((114 : Nat) : Int)) (by decide +kernel) ?_
    refine gi_icmp_eq d_W_told_134 (tgt := 148) (by decide) (by omega) (fun hb134 => False.elim (by exact absurd hb134 (by decide))) (fun hb134 => ?_)
    refine lf_iload_n d_W_told_137 rfl rfl ?_
    refine lf_bipush d_W_told_138 (v := Int32.ofInt ((118 : Nat) : Int)) (by decide +kernel) ?_
    refine gi_icmp_eq d_W_told_140 (tgt := 148) (by decide) (by omega) (fun hb140 => ?_) (fun hb140 => False.elim (by exact absurd hb140 (by decide)))
    refine lf_iconst d_W_told_148 (v := Int32.ofInt ((1 : Nat) : Int)) rfl ?_
    refine lf_iload d_W_told_149 rfl ?_
    refine gi_isubN (a := 1) (b := 1) d_W_told_151 (by omega) ?_
    refine gw_iret d_W_told_152 rfl ?_
    exact ⟨rfl, rfl, rfl, rfl⟩
  · refine lf_iload_n d_W_told_0 rfl rfl ?_
    refine gi_if_eq d_W_told_1 (tgt := 8) (by decide) (by omega) (fun hb1 => False.elim (by exact absurd hb1 (by decide))) (fun hb1 => ?_)
    refine lf_iload_n d_W_told_4 rfl rfl ?_
    refine gi_if_ne d_W_told_5 (tgt := 12) (by decide) (by omega) (fun hb5 => ?_) (fun hb5 => False.elim (by exact absurd hb5 (by decide)))
    refine lf_iload_n d_W_told_12 rfl rfl ?_
    refine lf_iconst d_W_told_13 (v := Int32.ofInt ((1 : Nat) : Int)) rfl ?_
    refine gi_icmp_ne d_W_told_14 (tgt := 26) (by decide) (by omega) (fun hb14 => False.elim (by exact absurd hb14 (by decide))) (fun hb14 => ?_)
    refine lf_iload_n d_W_told_17 rfl rfl ?_
    refine lf_iconst d_W_told_18 (v := Int32.ofInt ((1 : Nat) : Int)) rfl ?_
    refine gi_icmp_ne d_W_told_19 (tgt := 26) (by decide) (by omega) (fun hb19 => False.elim (by exact absurd hb19 (by decide))) (fun hb19 => ?_)
    refine lf_iconst d_W_told_22 (v := Int32.ofInt ((1 : Nat) : Int)) rfl ?_
    refine lf_goto d_W_told_23 (tgt := 27) (by decide) ?_
    refine lf_istore_n d_W_told_27 rfl (by decide +kernel) (L2 := [(3, _), (0, _), (1, _), (2, _)]) rfl ?_
    refine lf_iload_n d_W_told_28 rfl rfl ?_
    refine lf_iconst d_W_told_29 (v := Int32.ofInt ((1 : Nat) : Int)) rfl ?_
    refine gi_icmp_eq d_W_told_30 (tgt := 38) (by decide) (by omega) (fun hb30 => ?_) (fun hb30 => False.elim (by exact absurd hb30 (by decide)))
    refine lf_iconst d_W_told_38 (v := Int32.ofInt ((1 : Nat) : Int)) rfl ?_
    refine lf_goto d_W_told_39 (tgt := 55) (by decide) ?_
    refine lf_istore d_W_told_55 (by decide +kernel) (L2 := [(4, _), (3, _), (0, _), (1, _), (2, _)]) rfl ?_
    refine lf_iload_n d_W_told_57 rfl rfl ?_
    refine lf_bipush d_W_told_58 (v := Int32.ofInt ((97 : Nat) : Int)) (by decide +kernel) ?_
    refine gi_icmp_eq d_W_told_60 (tgt := 69) (by decide) (by omega) (fun hb60 => False.elim (by exact absurd hb60 (by decide))) (fun hb60 => ?_)
    refine lf_iload_n d_W_told_63 rfl rfl ?_
    refine lf_bipush d_W_told_64 (v := Int32.ofInt ((110 : Nat) : Int)) (by decide +kernel) ?_
    refine gi_icmp_ne d_W_told_66 (tgt := 73) (by decide) (by omega) (fun hb66 => ?_) (fun hb66 => False.elim (by exact absurd hb66 (by decide)))
    refine lf_iload_n d_W_told_73 rfl rfl ?_
    refine lf_bipush d_W_told_74 (v := Int32.ofInt ((111 : Nat) : Int)) (by decide +kernel) ?_
    refine gi_icmp_eq d_W_told_76 (tgt := 85) (by decide) (by omega) (fun hb76 => False.elim (by exact absurd hb76 (by decide))) (fun hb76 => ?_)
    refine lf_iload_n d_W_told_79 rfl rfl ?_
    refine lf_bipush d_W_told_80 (v := Int32.ofInt ((114 : Nat) : Int)) (by decide +kernel) ?_
    refine gi_icmp_ne d_W_told_82 (tgt := 90) (by decide) (by omega) (fun hb82 => ?_) (fun hb82 => False.elim (by exact absurd hb82 (by decide)))
    refine lf_iload_n d_W_told_90 rfl rfl ?_
    refine lf_bipush d_W_told_91 (v := Int32.ofInt ((120 : Nat) : Int)) (by decide +kernel) ?_
    refine gi_icmp_ne d_W_told_93 (tgt := 116) (by decide) (by omega) (fun hb93 => ?_) (fun hb93 => False.elim (by exact absurd hb93 (by decide)))
    refine lf_iload_n d_W_told_116 rfl rfl ?_
    refine lf_istore d_W_told_117 (by decide +kernel) (L2 := [(5, _), (4, _), (3, _), (0, _), (1, _), (2, _)]) rfl ?_
    refine lf_iload d_W_told_119 rfl ?_
    refine lf_iconst d_W_told_121 (v := Int32.ofInt ((2 : Nat) : Int)) rfl ?_
    refine gi_icmp_eq d_W_told_122 (tgt := 143) (by decide) (by omega) (fun hb122 => False.elim (by exact absurd hb122 (by decide))) (fun hb122 => ?_)
    refine lf_iload_n d_W_told_125 rfl rfl ?_
    refine lf_bipush d_W_told_126 (v := Int32.ofInt ((110 : Nat) : Int)) (by decide +kernel) ?_
    refine gi_icmp_eq d_W_told_128 (tgt := 148) (by decide) (by omega) (fun hb128 => False.elim (by exact absurd hb128 (by decide))) (fun hb128 => ?_)
    refine lf_iload_n d_W_told_131 rfl rfl ?_
    refine lf_bipush d_W_told_132 (v := Int32.ofInt ((114 : Nat) : Int)) (by decide +kernel) ?_
    refine gi_icmp_eq d_W_told_134 (tgt := 148) (by decide) (by omega) (fun hb134 => False.elim (by exact absurd hb134 (by decide))) (fun hb134 => ?_)
    refine lf_iload_n d_W_told_137 rfl rfl ?_
    refine lf_bipush d_W_told_138 (v := Int32.ofInt ((118 : Nat) : Int)) (by decide +kernel) ?_
    refine gi_icmp_eq d_W_told_140 (tgt := 148) (by decide) (by omega) (fun hb140 => ?_) (fun hb140 => False.elim (by exact absurd hb140 (by decide)))
    refine lf_iconst d_W_told_148 (v := Int32.ofInt ((1 : Nat) : Int)) rfl ?_
    refine lf_iload d_W_told_149 rfl ?_
    refine gi_isubN (a := 1) (b := 1) d_W_told_151 (by omega) ?_
    refine gw_iret d_W_told_152 rfl ?_
    exact ⟨rfl, rfl, rfl, rfl⟩
  · refine lf_iload_n d_W_told_0 rfl rfl ?_
    refine gi_if_eq d_W_told_1 (tgt := 8) (by decide) (by omega) (fun hb1 => False.elim (by exact absurd hb1 (by decide))) (fun hb1 => ?_)
    refine lf_iload_n d_W_told_4 rfl rfl ?_
    refine gi_if_ne d_W_told_5 (tgt := 12) (by decide) (by omega) (fun hb5 => ?_) (fun hb5 => False.elim (by exact absurd hb5 (by decide)))
    refine lf_iload_n d_W_told_12 rfl rfl ?_
    refine lf_iconst d_W_told_13 (v := Int32.ofInt ((1 : Nat) : Int)) rfl ?_
    refine gi_icmp_ne d_W_told_14 (tgt := 26) (by decide) (by omega) (fun hb14 => False.elim (by exact absurd hb14 (by decide))) (fun hb14 => ?_)
    refine lf_iload_n d_W_told_17 rfl rfl ?_
    refine lf_iconst d_W_told_18 (v := Int32.ofInt ((1 : Nat) : Int)) rfl ?_
    refine gi_icmp_ne d_W_told_19 (tgt := 26) (by decide) (by omega) (fun hb19 => ?_) (fun hb19 => False.elim (by exact absurd hb19 (by decide)))
    refine lf_iconst d_W_told_26 (v := Int32.ofInt ((2 : Nat) : Int)) rfl ?_
    refine lf_istore_n d_W_told_27 rfl (by decide +kernel) (L2 := [(3, _), (0, _), (1, _), (2, _)]) rfl ?_
    refine lf_iload_n d_W_told_28 rfl rfl ?_
    refine lf_iconst d_W_told_29 (v := Int32.ofInt ((1 : Nat) : Int)) rfl ?_
    refine gi_icmp_eq d_W_told_30 (tgt := 38) (by decide) (by omega) (fun hb30 => ?_) (fun hb30 => False.elim (by exact absurd hb30 (by decide)))
    refine lf_iconst d_W_told_38 (v := Int32.ofInt ((1 : Nat) : Int)) rfl ?_
    refine lf_goto d_W_told_39 (tgt := 55) (by decide) ?_
    refine lf_istore d_W_told_55 (by decide +kernel) (L2 := [(4, _), (3, _), (0, _), (1, _), (2, _)]) rfl ?_
    refine lf_iload_n d_W_told_57 rfl rfl ?_
    refine lf_bipush d_W_told_58 (v := Int32.ofInt ((97 : Nat) : Int)) (by decide +kernel) ?_
    refine gi_icmp_eq d_W_told_60 (tgt := 69) (by decide) (by omega) (fun hb60 => False.elim (by exact absurd hb60 (by decide))) (fun hb60 => ?_)
    refine lf_iload_n d_W_told_63 rfl rfl ?_
    refine lf_bipush d_W_told_64 (v := Int32.ofInt ((110 : Nat) : Int)) (by decide +kernel) ?_
    refine gi_icmp_ne d_W_told_66 (tgt := 73) (by decide) (by omega) (fun hb66 => ?_) (fun hb66 => False.elim (by exact absurd hb66 (by decide)))
    refine lf_iload_n d_W_told_73 rfl rfl ?_
    refine lf_bipush d_W_told_74 (v := Int32.ofInt ((111 : Nat) : Int)) (by decide +kernel) ?_
    refine gi_icmp_eq d_W_told_76 (tgt := 85) (by decide) (by omega) (fun hb76 => False.elim (by exact absurd hb76 (by decide))) (fun hb76 => ?_)
    refine lf_iload_n d_W_told_79 rfl rfl ?_
    refine lf_bipush d_W_told_80 (v := Int32.ofInt ((114 : Nat) : Int)) (by decide +kernel) ?_
    refine gi_icmp_ne d_W_told_82 (tgt := 90) (by decide) (by omega) (fun hb82 => ?_) (fun hb82 => False.elim (by exact absurd hb82 (by decide)))
    refine lf_iload_n d_W_told_90 rfl rfl ?_
    refine lf_bipush d_W_told_91 (v := Int32.ofInt ((120 : Nat) : Int)) (by decide +kernel) ?_
    refine gi_icmp_ne d_W_told_93 (tgt := 116) (by decide) (by omega) (fun hb93 => ?_) (fun hb93 => False.elim (by exact absurd hb93 (by decide)))
    refine lf_iload_n d_W_told_116 rfl rfl ?_
    refine lf_istore d_W_told_117 (by decide +kernel) (L2 := [(5, _), (4, _), (3, _), (0, _), (1, _), (2, _)]) rfl ?_
    refine lf_iload d_W_told_119 rfl ?_
    refine lf_iconst d_W_told_121 (v := Int32.ofInt ((2 : Nat) : Int)) rfl ?_
    refine gi_icmp_eq d_W_told_122 (tgt := 143) (by decide) (by omega) (fun hb122 => False.elim (by exact absurd hb122 (by decide))) (fun hb122 => ?_)
    refine lf_iload_n d_W_told_125 rfl rfl ?_
    refine lf_bipush d_W_told_126 (v := Int32.ofInt ((110 : Nat) : Int)) (by decide +kernel) ?_
    refine gi_icmp_eq d_W_told_128 (tgt := 148) (by decide) (by omega) (fun hb128 => False.elim (by exact absurd hb128 (by decide))) (fun hb128 => ?_)
    refine lf_iload_n d_W_told_131 rfl rfl ?_
    refine lf_bipush d_W_told_132 (v := Int32.ofInt ((114 : Nat) : Int)) (by decide +kernel) ?_
    refine gi_icmp_eq d_W_told_134 (tgt := 148) (by decide) (by omega) (fun hb134 => False.elim (by exact absurd hb134 (by decide))) (fun hb134 => ?_)
    refine lf_iload_n d_W_told_137 rfl rfl ?_
    refine lf_bipush d_W_told_138 (v := Int32.ofInt ((118 : Nat) : Int)) (by decide +kernel) ?_
    refine gi_icmp_eq d_W_told_140 (tgt := 148) (by decide) (by omega) (fun hb140 => ?_) (fun hb140 => False.elim (by exact absurd hb140 (by decide)))
    refine lf_iconst d_W_told_148 (v := Int32.ofInt ((1 : Nat) : Int)) rfl ?_
    refine lf_iload d_W_told_149 rfl ?_
    refine gi_isubN (a := 1) (b := 1) d_W_told_151 (by omega) ?_
    refine gw_iret d_W_told_152 rfl ?_
    exact ⟨rfl, rfl, rfl, rfl⟩
  · refine lf_iload_n d_W_told_0 rfl rfl ?_
    refine gi_if_eq d_W_told_1 (tgt := 8) (by decide) (by omega) (fun hb1 => False.elim (by exact absurd hb1 (by decide))) (fun hb1 => ?_)
    refine lf_iload_n d_W_told_4 rfl rfl ?_
    refine gi_if_ne d_W_told_5 (tgt := 12) (by decide) (by omega) (fun hb5 => False.elim (by exact absurd hb5 (by decide))) (fun hb5 => ?_)
    refine lf_iconst d_W_told_8 (v := Int32.ofInt ((0 : Nat) : Int)) rfl ?_
    refine lf_goto d_W_told_9 (tgt := 27) (by decide) ?_
    refine lf_istore_n d_W_told_27 rfl (by decide +kernel) (L2 := [(3, _), (0, _), (1, _), (2, _)]) rfl ?_
    refine lf_iload_n d_W_told_28 rfl rfl ?_
    refine lf_iconst d_W_told_29 (v := Int32.ofInt ((1 : Nat) : Int)) rfl ?_
    refine gi_icmp_eq d_W_told_30 (tgt := 38) (by decide) (by omega) (fun hb30 => False.elim (by exact absurd hb30 (by decide))) (fun hb30 => ?_)
    refine lf_iload_n d_W_told_33 rfl rfl ?_
    refine lf_iconst d_W_told_34 (v := Int32.ofInt ((1 : Nat) : Int)) rfl ?_
    refine gi_icmp_ne d_W_told_35 (tgt := 42) (by decide) (by omega) (fun hb35 => ?_) (fun hb35 => False.elim (by exact absurd hb35 (by decide)))
    refine lf_iload_n d_W_told_42 rfl rfl ?_
    refine gi_if_ne d_W_told_43 (tgt := 54) (by decide) (by omega) (fun hb43 => ?_) (fun hb43 => False.elim (by exact absurd hb43 (by decide)))
    refine lf_iconst d_W_told_54 (v := Int32.ofInt ((2 : Nat) : Int)) rfl ?_
    refine lf_istore d_W_told_55 (by decide +kernel) (L2 := [(4, _), (3, _), (0, _), (1, _), (2, _)]) rfl ?_
    refine lf_iload_n d_W_told_57 rfl rfl ?_
    refine lf_bipush d_W_told_58 (v := Int32.ofInt ((97 : Nat) : Int)) (by decide +kernel) ?_
    refine gi_icmp_eq d_W_told_60 (tgt := 69) (by decide) (by omega) (fun hb60 => False.elim (by exact absurd hb60 (by decide))) (fun hb60 => ?_)
    refine lf_iload_n d_W_told_63 rfl rfl ?_
    refine lf_bipush d_W_told_64 (v := Int32.ofInt ((110 : Nat) : Int)) (by decide +kernel) ?_
    refine gi_icmp_ne d_W_told_66 (tgt := 73) (by decide) (by omega) (fun hb66 => ?_) (fun hb66 => False.elim (by exact absurd hb66 (by decide)))
    refine lf_iload_n d_W_told_73 rfl rfl ?_
    refine lf_bipush d_W_told_74 (v := Int32.ofInt ((111 : Nat) : Int)) (by decide +kernel) ?_
    refine gi_icmp_eq d_W_told_76 (tgt := 85) (by decide) (by omega) (fun hb76 => False.elim (by exact absurd hb76 (by decide))) (fun hb76 => ?_)
    refine lf_iload_n d_W_told_79 rfl rfl ?_
    refine lf_bipush d_W_told_80 (v := Int32.ofInt ((114 : Nat) : Int)) (by decide +kernel) ?_
    refine gi_icmp_ne d_W_told_82 (tgt := 90) (by decide) (by omega) (fun hb82 => ?_) (fun hb82 => False.elim (by exact absurd hb82 (by decide)))
    refine lf_iload_n d_W_told_90 rfl rfl ?_
    refine lf_bipush d_W_told_91 (v := Int32.ofInt ((120 : Nat) : Int)) (by decide +kernel) ?_
    refine gi_icmp_ne d_W_told_93 (tgt := 116) (by decide) (by omega) (fun hb93 => ?_) (fun hb93 => False.elim (by exact absurd hb93 (by decide)))
    refine lf_iload_n d_W_told_116 rfl rfl ?_
    refine lf_istore d_W_told_117 (by decide +kernel) (L2 := [(5, _), (4, _), (3, _), (0, _), (1, _), (2, _)]) rfl ?_
    refine lf_iload d_W_told_119 rfl ?_
    refine lf_iconst d_W_told_121 (v := Int32.ofInt ((2 : Nat) : Int)) rfl ?_
    refine gi_icmp_eq d_W_told_122 (tgt := 143) (by decide) (by omega) (fun hb122 => ?_) (fun hb122 => False.elim (by exact absurd hb122 (by decide)))
    refine lf_iload d_W_told_143 rfl ?_
    refine lf_goto d_W_told_145 (tgt := 152) (by decide) ?_
    refine gw_iret d_W_told_152 rfl ?_
    exact ⟨rfl, rfl, rfl, rfl⟩
  · refine lf_iload_n d_W_told_0 rfl rfl ?_
    refine gi_if_eq d_W_told_1 (tgt := 8) (by decide) (by omega) (fun hb1 => False.elim (by exact absurd hb1 (by decide))) (fun hb1 => ?_)
    refine lf_iload_n d_W_told_4 rfl rfl ?_
    refine gi_if_ne d_W_told_5 (tgt := 12) (by decide) (by omega) (fun hb5 => ?_) (fun hb5 => False.elim (by exact absurd hb5 (by decide)))
    refine lf_iload_n d_W_told_12 rfl rfl ?_
    refine lf_iconst d_W_told_13 (v := Int32.ofInt ((1 : Nat) : Int)) rfl ?_
    refine gi_icmp_ne d_W_told_14 (tgt := 26) (by decide) (by omega) (fun hb14 => ?_) (fun hb14 => False.elim (by exact absurd hb14 (by decide)))
    refine lf_iconst d_W_told_26 (v := Int32.ofInt ((2 : Nat) : Int)) rfl ?_
    refine lf_istore_n d_W_told_27 rfl (by decide +kernel) (L2 := [(3, _), (0, _), (1, _), (2, _)]) rfl ?_
    refine lf_iload_n d_W_told_28 rfl rfl ?_
    refine lf_iconst d_W_told_29 (v := Int32.ofInt ((1 : Nat) : Int)) rfl ?_
    refine gi_icmp_eq d_W_told_30 (tgt := 38) (by decide) (by omega) (fun hb30 => False.elim (by exact absurd hb30 (by decide))) (fun hb30 => ?_)
    refine lf_iload_n d_W_told_33 rfl rfl ?_
    refine lf_iconst d_W_told_34 (v := Int32.ofInt ((1 : Nat) : Int)) rfl ?_
    refine gi_icmp_ne d_W_told_35 (tgt := 42) (by decide) (by omega) (fun hb35 => False.elim (by exact absurd hb35 (by decide))) (fun hb35 => ?_)
    refine lf_iconst d_W_told_38 (v := Int32.ofInt ((1 : Nat) : Int)) rfl ?_
    refine lf_goto d_W_told_39 (tgt := 55) (by decide) ?_
    refine lf_istore d_W_told_55 (by decide +kernel) (L2 := [(4, _), (3, _), (0, _), (1, _), (2, _)]) rfl ?_
    refine lf_iload_n d_W_told_57 rfl rfl ?_
    refine lf_bipush d_W_told_58 (v := Int32.ofInt ((97 : Nat) : Int)) (by decide +kernel) ?_
    refine gi_icmp_eq d_W_told_60 (tgt := 69) (by decide) (by omega) (fun hb60 => False.elim (by exact absurd hb60 (by decide))) (fun hb60 => ?_)
    refine lf_iload_n d_W_told_63 rfl rfl ?_
    refine lf_bipush d_W_told_64 (v := Int32.ofInt ((110 : Nat) : Int)) (by decide +kernel) ?_
    refine gi_icmp_ne d_W_told_66 (tgt := 73) (by decide) (by omega) (fun hb66 => ?_) (fun hb66 => False.elim (by exact absurd hb66 (by decide)))
    refine lf_iload_n d_W_told_73 rfl rfl ?_
    refine lf_bipush d_W_told_74 (v := Int32.ofInt ((111 : Nat) : Int)) (by decide +kernel) ?_
    refine gi_icmp_eq d_W_told_76 (tgt := 85) (by decide) (by omega) (fun hb76 => False.elim (by exact absurd hb76 (by decide))) (fun hb76 => ?_)
    refine lf_iload_n d_W_told_79 rfl rfl ?_
    refine lf_bipush d_W_told_80 (v := Int32.ofInt ((114 : Nat) : Int)) (by decide +kernel) ?_
    refine gi_icmp_ne d_W_told_82 (tgt := 90) (by decide) (by omega) (fun hb82 => ?_) (fun hb82 => False.elim (by exact absurd hb82 (by decide)))
    refine lf_iload_n d_W_told_90 rfl rfl ?_
    refine lf_bipush d_W_told_91 (v := Int32.ofInt ((120 : Nat) : Int)) (by decide +kernel) ?_
    refine gi_icmp_ne d_W_told_93 (tgt := 116) (by decide) (by omega) (fun hb93 => ?_) (fun hb93 => False.elim (by exact absurd hb93 (by decide)))
    refine lf_iload_n d_W_told_116 rfl rfl ?_
    refine lf_istore d_W_told_117 (by decide +kernel) (L2 := [(5, _), (4, _), (3, _), (0, _), (1, _), (2, _)]) rfl ?_
    refine lf_iload d_W_told_119 rfl ?_
    refine lf_iconst d_W_told_121 (v := Int32.ofInt ((2 : Nat) : Int)) rfl ?_
    refine gi_icmp_eq d_W_told_122 (tgt := 143) (by decide) (by omega) (fun hb122 => ?_) (fun hb122 => False.elim (by exact absurd hb122 (by decide)))
    refine lf_iload d_W_told_143 rfl ?_
    refine lf_goto d_W_told_145 (tgt := 152) (by decide) ?_
    refine gw_iret d_W_told_152 rfl ?_
    exact ⟨rfl, rfl, rfl, rfl⟩
  · refine lf_iload_n d_W_told_0 rfl rfl ?_
    refine gi_if_eq d_W_told_1 (tgt := 8) (by decide) (by omega) (fun hb1 => False.elim (by exact absurd hb1 (by decide))) (fun hb1 => ?_)
    refine lf_iload_n d_W_told_4 rfl rfl ?_
    refine gi_if_ne d_W_told_5 (tgt := 12) (by decide) (by omega) (fun hb5 => ?_) (fun hb5 => False.elim (by exact absurd hb5 (by decide)))
    refine lf_iload_n d_W_told_12 rfl rfl ?_
    refine lf_iconst d_W_told_13 (v := Int32.ofInt ((1 : Nat) : Int)) rfl ?_
    refine gi_icmp_ne d_W_told_14 (tgt := 26) (by decide) (by omega) (fun hb14 => ?_) (fun hb14 => False.elim (by exact absurd hb14 (by decide)))
    refine lf_iconst d_W_told_26 (v := Int32.ofInt ((2 : Nat) : Int)) rfl ?_
    refine lf_istore_n d_W_told_27 rfl (by decide +kernel) (L2 := [(3, _), (0, _), (1, _), (2, _)]) rfl ?_
    refine lf_iload_n d_W_told_28 rfl rfl ?_
    refine lf_iconst d_W_told_29 (v := Int32.ofInt ((1 : Nat) : Int)) rfl ?_
    refine gi_icmp_eq d_W_told_30 (tgt := 38) (by decide) (by omega) (fun hb30 => False.elim (by exact absurd hb30 (by decide))) (fun hb30 => ?_)
    refine lf_iload_n d_W_told_33 rfl rfl ?_
    refine lf_iconst d_W_told_34 (v := Int32.ofInt ((1 : Nat) : Int)) rfl ?_
    refine gi_icmp_ne d_W_told_35 (tgt := 42) (by decide) (by omega) (fun hb35 => ?_) (fun hb35 => False.elim (by exact absurd hb35 (by decide)))
    refine lf_iload_n d_W_told_42 rfl rfl ?_
    refine gi_if_ne d_W_told_43 (tgt := 54) (by decide) (by omega) (fun hb43 => ?_) (fun hb43 => False.elim (by exact absurd hb43 (by decide)))
    refine lf_iconst d_W_told_54 (v := Int32.ofInt ((2 : Nat) : Int)) rfl ?_
    refine lf_istore d_W_told_55 (by decide +kernel) (L2 := [(4, _), (3, _), (0, _), (1, _), (2, _)]) rfl ?_
    refine lf_iload_n d_W_told_57 rfl rfl ?_
    refine lf_bipush d_W_told_58 (v := Int32.ofInt ((97 : Nat) : Int)) (by decide +kernel) ?_
    refine gi_icmp_eq d_W_told_60 (tgt := 69) (by decide) (by omega) (fun hb60 => False.elim (by exact absurd hb60 (by decide))) (fun hb60 => ?_)
    refine lf_iload_n d_W_told_63 rfl rfl ?_
    refine lf_bipush d_W_told_64 (v := Int32.ofInt ((110 : Nat) : Int)) (by decide +kernel) ?_
    refine gi_icmp_ne d_W_told_66 (tgt := 73) (by decide) (by omega) (fun hb66 => ?_) (fun hb66 => False.elim (by exact absurd hb66 (by decide)))
    refine lf_iload_n d_W_told_73 rfl rfl ?_
    refine lf_bipush d_W_told_74 (v := Int32.ofInt ((111 : Nat) : Int)) (by decide +kernel) ?_
    refine gi_icmp_eq d_W_told_76 (tgt := 85) (by decide) (by omega) (fun hb76 => False.elim (by exact absurd hb76 (by decide))) (fun hb76 => ?_)
    refine lf_iload_n d_W_told_79 rfl rfl ?_
    refine lf_bipush d_W_told_80 (v := Int32.ofInt ((114 : Nat) : Int)) (by decide +kernel) ?_
    refine gi_icmp_ne d_W_told_82 (tgt := 90) (by decide) (by omega) (fun hb82 => ?_) (fun hb82 => False.elim (by exact absurd hb82 (by decide)))
    refine lf_iload_n d_W_told_90 rfl rfl ?_
    refine lf_bipush d_W_told_91 (v := Int32.ofInt ((120 : Nat) : Int)) (by decide +kernel) ?_
    refine gi_icmp_ne d_W_told_93 (tgt := 116) (by decide) (by omega) (fun hb93 => ?_) (fun hb93 => False.elim (by exact absurd hb93 (by decide)))
    refine lf_iload_n d_W_told_116 rfl rfl ?_
    refine lf_istore d_W_told_117 (by decide +kernel) (L2 := [(5, _), (4, _), (3, _), (0, _), (1, _), (2, _)]) rfl ?_
    refine lf_iload d_W_told_119 rfl ?_
    refine lf_iconst d_W_told_121 (v := Int32.ofInt ((2 : Nat) : Int)) rfl ?_
    refine gi_icmp_eq d_W_told_122 (tgt := 143) (by decide) (by omega) (fun hb122 => ?_) (fun hb122 => False.elim (by exact absurd hb122 (by decide)))
    refine lf_iload d_W_told_143 rfl ?_
    refine lf_goto d_W_told_145 (tgt := 152) (by decide) ?_
    refine gw_iret d_W_told_152 rfl ?_
    exact ⟨rfl, rfl, rfl, rfl⟩
theorem w_told98 (hx : HX X L9 xs) {a b : Nat} (ha : a ≤ 2) (hb : b ≤ 2) : EVp TT cl6 X mi_W_told 0 [.int (Int32.ofInt ((98 : Nat) : Int)), .int (Int32.ofInt ((a : Nat) : Int)), .int (Int32.ofInt ((b : Nat) : Int))] sh I J (.int (Int32.ofInt ((tldN 98 a b : Nat) : Int))) := by
  have h9 : (a = 0 ∨ a = 1 ∨ a = 2) ∧ (b = 0 ∨ b = 1 ∨ b = 2) := by omega
  obtain ⟨h1, h2⟩ := h9
  refine gw_enter (hx_ok hx) (by decide +kernel) (Nat.le_of_ble_eq_true rfl) (L := [(0, _), (1, _), (2, _)]) rfl ?_
  rcases h1 with rfl | rfl | rfl <;> rcases h2 with rfl | rfl | rfl
  · refine lf_iload_n d_W_told_0 rfl rfl ?_
    refine gi_if_eq d_W_told_1 (tgt := 8) (by decide) (by omega) (fun hb1 => ?_) (fun hb1 => False.elim (by exact absurd hb1 (by decide)))
    refine lf_iconst d_W_told_8 (v := Int32.ofInt ((0 : Nat) : Int)) rfl ?_
    refine lf_goto d_W_told_9 (tgt := 27) (by decide) ?_
    refine lf_istore_n d_W_told_27 rfl (by decide +kernel) (L2 := [(3, _), (0, _), (1, _), (2, _)]) rfl ?_
    refine lf_iload_n d_W_told_28 rfl rfl ?_
    refine lf_iconst d_W_told_29 (v := Int32.ofInt ((1 : Nat) : Int)) rfl ?_
    refine gi_icmp_eq d_W_told_30 (tgt := 38) (by decide) (by omega) (fun hb30 => False.elim (by exact absurd hb30 (by decide))) (fun hb30 => ?_)
    refine lf_iload_n d_W_told_33 rfl rfl ?_
    refine lf_iconst d_W_told_34 (v := Int32.ofInt ((1 : Nat) : Int)) rfl ?_
    refine gi_icmp_ne d_W_told_35 (tgt := 42) (by decide) (by omega) (fun hb35 => ?_) (fun hb35 => False.elim (by exact absurd hb35 (by decide)))
    refine lf_iload_n d_W_told_42 rfl rfl ?_
    refine gi_if_ne d_W_told_43 (tgt := 54) (by decide) (by omega) (fun hb43 => False.elim (by exact absurd hb43 (by decide))) (fun hb43 => ?_)
    refine lf_iload_n d_W_told_46 rfl rfl ?_
    refine gi_if_ne d_W_told_47 (tgt := 54) (by decide) (by omega) (fun hb47 => False.elim (by exact absurd hb47 (by decide))) (fun hb47 => ?_)
    refine lf_iconst d_W_told_50 (v := Int32.ofInt ((0 : Nat) : Int)) rfl ?_
    refine lf_goto d_W_told_51 (tgt := 55) (by decide) ?_
    refine lf_istore d_W_told_55 (by decide +kernel) (L2 := [(4, _), (3, _), (0, _), (1, _), (2, _)]) rfl ?_
    refine lf_iload_n d_W_told_57 rfl rfl ?_
    refine lf_bipush d_W_told_58 (v := Int32.ofInt ((97 : Nat) : Int)) (by decide +kernel) ?_
    refine gi_icmp_eq d_W_told_60 (tgt := 69) (by decide) (by omega) (fun hb60 => False.elim (by exact absurd hb60 (by decide))) (fun hb60 => ?_)
    refine lf_iload_n d_W_told_63 rfl rfl ?_
    refine lf_bipush d_W_told_64 (v := Int32.ofInt ((110 : Nat) : Int)) (by decide +kernel) ?_
    refine gi_icmp_ne d_W_told_66 (tgt := 73) (by decide) (by omega) (fun hb66 => ?_) (fun hb66 => False.elim (by exact absurd hb66 (by decide)))
    refine lf_iload_n d_W_told_73 rfl rfl ?_
    refine lf_bipush d_W_told_74 (v := Int32.ofInt ((111 : Nat) : Int)) (by decide +kernel) ?_
    refine gi_icmp_eq d_W_told_76 (tgt := 85) (by decide) (by omega) (fun hb76 => False.elim (by exact absurd hb76 (by decide))) (fun hb76 => ?_)
    refine lf_iload_n d_W_told_79 rfl rfl ?_
    refine lf_bipush d_W_told_80 (v := Int32.ofInt ((114 : Nat) : Int)) (by decide +kernel) ?_
    refine gi_icmp_ne d_W_told_82 (tgt := 90) (by decide) (by omega) (fun hb82 => ?_) (fun hb82 => False.elim (by exact absurd hb82 (by decide)))
    refine lf_iload_n d_W_told_90 rfl rfl ?_
    refine lf_bipush d_W_told_91 (v := Int32.ofInt ((120 : Nat) : Int)) (by decide +kernel) ?_
    refine gi_icmp_ne d_W_told_93 (tgt := 116) (by decide) (by omega) (fun hb93 => ?_) (fun hb93 => False.elim (by exact absurd hb93 (by decide)))
    refine lf_iload_n d_W_told_116 rfl rfl ?_
    refine lf_istore d_W_told_117 (by decide +kernel) (L2 := [(5, _), (4, _), (3, _), (0, _), (1, _), (2, _)]) rfl ?_
    refine lf_iload d_W_told_119 rfl ?_
    refine lf_iconst d_W_told_121 (v := Int32.ofInt ((2 : Nat) : Int)) rfl ?_
    refine gi_icmp_eq d_W_told_122 (tgt := 143) (by decide) (by omega) (fun hb122 => False.elim (by exact absurd hb122 (by decide))) (fun hb122 => ?_)
    refine lf_iload_n d_W_told_125 rfl rfl ?_
    refine lf_bipush d_W_told_126 (v := Int32.ofInt ((110 : Nat) : Int)) (by decide +kernel) ?_
    refine gi_icmp_eq d_W_told_128 (tgt := 148) (by decide) (by omega) (fun hb128 => False.elim (by exact absurd hb128 (by decide))) (fun hb128 => ?_)
    refine lf_iload_n d_W_told_131 rfl rfl ?_
    refine lf_bipush d_W_told_132 (v := Int32.ofInt ((114 : Nat) : Int)) (by decide +kernel) ?_
    refine gi_icmp_eq d_W_told_134 (tgt := 148) (by decide) (by omega) (fun hb134 => False.elim (by exact absurd hb134 (by decide))) (fun hb134 => ?_)
    refine lf_iload_n d_W_told_137 rfl rfl ?_
    refine lf_bipush d_W_told_138 (v := Int32.ofInt ((118 : Nat) : Int)) (by decide +kernel) ?_
    refine gi_icmp_eq d_W_told_140 (tgt := 148) (by decide) (by omega) (fun hb140 => False.elim (by exact absurd hb140 (by decide))) (fun hb140 => ?_)
    refine lf_iload d_W_told_143 rfl ?_
    refine lf_goto d_W_told_145 (tgt := 152) (by decide) ?_
    refine gw_iret d_W_told_152 rfl ?_
    exact ⟨rfl, rfl, rfl, rfl⟩
  · refine lf_iload_n d_W_told_0 rfl rfl ?_
    refine gi_if_eq d_W_told_1 (tgt := 8) (by decide) (by omega) (fun hb1 => ?_) (fun hb1 => False.elim (by exact absurd hb1 (by decide)))
    refine lf_iconst d_W_told_8 (v := Int32.ofInt ((0 : Nat) : Int)) rfl ?_
    refine lf_goto d_W_told_9 (tgt := 27) (by decide) ?_
    refine lf_istore_n d_W_told_27 rfl (by decide +kernel) (L2 := [(3, _), (0, _), (1, _), (2, _)]) rfl ?_
    refine lf_iload_n d_W_told_28 rfl rfl ?_
    refine lf_iconst d_W_told_29 (v := Int32.ofInt ((1 : Nat) : Int)) rfl ?_
    refine gi_icmp_eq d_W_told_30 (tgt := 38) (by decide) (by omega) (fun hb30 => False.elim (by exact absurd hb30 (by decide))) (fun hb30 => ?_)
    refine lf_iload_n d_W_told_33 rfl rfl ?_
    refine lf_iconst d_W_told_34 (v := Int32.ofInt ((1 : Nat) : Int)) rfl ?_
    refine gi_icmp_ne d_W_told_35 (tgt := 42) (by decide) (by omega) (fun hb35 => False.elim (by exact absurd hb35 (by decide))) (fun hb35 => ?_)
    refine lf_iconst d_W_told_38 (v := Int32.ofInt ((1 : Nat) : Int)) rfl ?_
    refine lf_goto d_W_told_39 (tgt := 55) (by decide) ?_
    refine lf_istore d_W_told_55 (by decide +kernel) (L2 := [(4, _), (3, _), (0, _), (1, _), (2, _)]) rfl ?_
    refine lf_iload_n d_W_told_57 rfl rfl ?_
    refine lf_bipush d_W_told_58 (v := Int32.ofInt ((97 : Nat) : Int)) (by decide +kernel) ?_
    refine gi_icmp_eq d_W_told_60 (tgt := 69) (by decide) (by omega) (fun hb60 => False.elim (by exact absurd hb60 (by decide))) (fun hb60 => ?_)
    refine lf_iload_n d_W_told_63 rfl rfl ?_
    refine lf_bipush d_W_told_64 (v := Int32.ofInt ((110 : Nat) : Int)) (by decide +kernel) ?_
    refine gi_icmp_ne d_W_told_66 (tgt := 73) (by decide) (by omega) (fun hb66 => ?_) (fun hb66 => False.elim (by exact absurd hb66 (by decide)))
    refine lf_iload_n d_W_told_73 rfl rfl ?_
    refine lf_bipush d_W_told_74 (v := Int32.ofInt ((111 : Nat) : Int)) (by decide +kernel) ?_
    refine gi_icmp_eq d_W_told_76 (tgt := 85) (by decide) (by omega) (fun hb76 => False.elim (by exact absurd hb76 (by decide))) (fun hb76 => ?_)
    refine lf_iload_n d_W_told_79 rfl rfl ?_
    refine lf_bipush d_W_told_80 (v := Int32.ofInt ((114 : Nat) : Int)) (by decide +kernel) ?_
    refine gi_icmp_ne d_W_told_82 (tgt := 90) (by decide) (by omega) (fun hb82 => ?_) (fun hb82 => False.elim (by exact absurd hb82 (by decide)))
    refine lf_iload_n d_W_told_90 rfl rfl ?_
    refine lf_bipush d_W_told_91 (v := Int32.ofInt ((120 : Nat) : Int)) (by decide +kernel) ?_
    refine gi_icmp_ne d_W_told_93 (tgt := 116) (by decide) (by omega) (fun hb93 => ?_) (fun hb93 => False.elim (by exact absurd hb93 (by decide)))
    refine lf_iload_n d_W_told_116 rfl rfl ?_
    refine lf_istore d_W_told_117 (by decide +kernel) (L2 := [(5, _), (4, _), (3, _), (0, _), (1, _), (2, _)]) rfl ?_
    refine lf_iload d_W_told_119 rfl ?_
    refine lf_iconst d_W_told_121 (v := Int32.ofInt ((2 : Nat) : Int)) rfl ?_
    refine gi_icmp_eq d_W_told_122 (tgt := 143) (by decide) (by omega) (fun hb122 => False.elim (by exact absurd hb122 (by decide))) (fun hb122 => ?_)
    refine lf_iload_n d_W_told_125 rfl rfl ?_
    refine lf_bipush d_W_told_126 (v := Int32.ofInt ((110 : Nat) : Int)) (by decide +kernel) ?_
    refine gi_icmp_eq d_W_told_128 (tgt := 148) (by decide) (by omega) (fun hb128 => False.elim (by exact absurd hb128 (by decide))) (fun hb128 => ?_)
    refine lf_iload_n d_W_told_131 rfl rfl ?_
    refine lf_bipush d_W_told_132 (v := Int32.ofInt ((114 : Nat) : Int)) (by decide +kernel) ?_
    refine gi_icmp_eq d_W_told_134 (tgt := 148) (by decide) (by omega) (fun hb134 => False.elim (by exact absurd hb134 (by decide))) (fun hb134 => ?_)
    refine lf_iload_n d_W_told_137 rfl rfl ?_
    refine lf_bipush d_W_told_138 (v := Int32.ofInt ((118 : Nat) : Int)) (by decide +kernel) ?_
    refine gi_icmp_eq d_W_told_140 (tgt := 148) (by decide) (by omega) (fun hb140 => False.elim (by exact absurd hb140 (by decide))) (fun hb140 => ?_)
    refine lf_iload d_W_told_143 rfl ?_
    refine lf_goto d_W_told_145 (tgt := 152) (by decide) ?_
    refine gw_iret d_W_told_152 rfl ?_
    exact ⟨rfl, rfl, rfl, rfl⟩
  · refine lf_iload_n d_W_told_0 rfl rfl ?_
    refine gi_if_eq d_W_told_1 (tgt := 8) (by decide) (by omega) (fun hb1 => ?_) (fun hb1 => False.elim (by exact absurd hb1 (by decide)))
    refine lf_iconst d_W_told_8 (v := Int32.ofInt ((0 : Nat) : Int)) rfl ?_
    refine lf_goto d_W_told_9 (tgt := 27) (by decide) ?_
    refine lf_istore_n d_W_told_27 rfl (by decide +kernel) (L2 := [(3, _), (0, _), (1, _), (2, _)]) rfl ?_
    refine lf_iload_n d_W_told_28 rfl rfl ?_
    refine lf_iconst d_W_told_29 (v := Int32.ofInt ((1 : Nat) : Int)) rfl ?_
    refine gi_icmp_eq d_W_told_30 (tgt := 38) (by decide) (by omega) (fun hb30 => False.elim (by exact absurd hb30 (by decide))) (fun hb30 => ?_)
    refine lf_iload_n d_W_told_33 rfl rfl ?_
    refine lf_iconst d_W_told_34 (v := Int32.ofInt ((1 : Nat) : Int)) rfl ?_
    refine gi_icmp_ne d_W_told_35 (tgt := 42) (by decide) (by omega) (fun hb35 => ?_) (fun hb35 => False.elim (by exact absurd hb35 (by decide)))
    refine lf_iload_n d_W_told_42 rfl rfl ?_
    refine gi_if_ne d_W_told_43 (tgt := 54) (by decide) (by omega) (fun hb43 => False.elim (by exact absurd hb43 (by decide))) (fun hb43 => ?_)
    refine lf_iload_n d_W_told_46 rfl rfl ?_
    refine gi_if_ne d_W_told_47 (tgt := 54) (by decide) (by omega) (fun hb47 => ?_) (fun hb47 => False.elim (by exact absurd hb47 (by decide)))
    refine lf_iconst d_W_told_54 (v := Int32.ofInt ((2 : Nat) : Int)) rfl ?_
    refine lf_istore d_W_told_55 (by decide +kernel) (L2 := [(4, _), (3, _), (0, _), (1, _), (2, _)]) rfl ?_
    refine lf_iload_n d_W_told_57 rfl rfl ?_
    refine lf_bipush d_W_told_58 (v := Int32.ofInt ((97 : Nat) : Int)) (by decide +kernel) ?_
    refine gi_icmp_eq d_W_told_60 (tgt := 69) (by decide) (by omega) (fun hb60 => False.elim (by exact absurd hb60 (by decide))) (fun hb60 => ?_)
    refine lf_iload_n d_W_told_63 rfl rfl ?_
    refine lf_bipush d_W_told_64 (v := Int32.ofInt ((110 : Nat) : Int)) (by decide +kernel) ?_
    refine gi_icmp_ne d_W_told_66 (tgt := 73) (by decide) (by omega) (fun hb66 => ?_) (fun hb66 => False.elim (by exact absurd hb66 (by decide)))
    refine lf_iload_n d_W_told_73 rfl rfl ?_
    refine lf_bipush d_W_told_74 (v := Int32.ofInt ((111 : Nat) : Int)) (by decide +kernel) ?_
    refine gi_icmp_eq d_W_told_76 (tgt := 85) (by decide) (by omega) (fun hb76 => False.elim (by exact absurd hb76 (by decide))) (fun hb76 => ?_)
    refine lf_iload_n d_W_told_79 rfl rfl ?_
    refine lf_bipush d_W_told_80 (v := Int32.ofInt ((114 : Nat) : Int)) (by decide +kernel) ?_
    refine gi_icmp_ne d_W_told_82 (tgt := 90) (by decide) (by omega) (fun hb82 => ?_) (fun hb82 => False.elim (by exact absurd hb82 (by decide)))
    refine lf_iload_n d_W_told_90 rfl rfl ?_
    refine lf_bipush d_W_told_91 (v := Int32.ofInt ((120 : Nat) : Int)) (by decide +kernel) ?_
    refine gi_icmp_ne d_W_told_93 (tgt := 116) (by decide) (by omega) (fun hb93 => ?_) (fun hb93 => False.elim (by exact absurd hb93 (by decide)))
    refine lf_iload_n d_W_told_116 rfl rfl ?_
    refine lf_istore d_W_told_117 (by decide +kernel) (L2 := [(5, _), (4, _), (3, _), (0, _), (1, _), (2, _)]) rfl ?_
    refine lf_iload d_W_told_119 rfl ?_
    refine lf_iconst d_W_told_121 (v := Int32.ofInt ((2 : Nat) : Int)) rfl ?_
    refine gi_icmp_eq d_W_told_122 (tgt := 143) (by decide) (by omega) (fun hb122 => False.elim (by exact absurd hb122 (by decide))) (fun hb122 => ?_)
    refine lf_iload_n d_W_told_125 rfl rfl ?_
    refine lf_bipush d_W_told_126 (v := Int32.ofInt ((110 : Nat) : Int)) (by decide +kernel) ?_
    refine gi_icmp_eq d_W_told_128 (tgt := 148) (by decide) (by omega) (fun hb128 => False.elim (by exact absurd hb128 (by decide))) (fun hb128 => ?_)
    refine lf_iload_n d_W_told_131 rfl rfl ?_
    refine lf_bipush d_W_told_132 (v := Int32.ofInt ((114 : Nat) : Int)) (by decide +kernel) ?_
    refine gi_icmp_eq d_W_told_134 (tgt := 148) (by decide) (by omega) (fun hb134 => False.elim (by exact absurd hb134 (by decide))) (fun hb134 => ?_)
    refine lf_iload_n d_W_told_137 rfl rfl ?_
    refine lf_bipush d_W_told_138 (v := Int32.ofInt ((118 : Nat) : Int)) (by decide +kernel) ?_
    refine gi_icmp_eq d_W_told_140 (tgt := 148) (by decide) (by omega) (fun hb140 => False.elim (by exact absurd hb140 (by decide))) (fun hb140 => ?_)
    refine lf_iload d_W_told_143 rfl ?_
    refine lf_goto d_W_told_145 (tgt := 152) (by decide) ?_
    refine gw_iret d_W_told_152 rfl ?_
    exact ⟨rfl, rfl, rfl, rfl⟩
  · refine lf_iload_n d_W_told_0 rfl rfl ?_
    refine gi_if_eq d_W_told_1 (tgt := 8) (by decide) (by omega) (fun hb1 => False.elim (by exact absurd hb1 (by decide))) (fun hb1 => ?_)
    refine lf_iload_n d_W_told_4 rfl rfl ?_
    refine gi_if_ne d_W_told_5 (tgt := 12) (by decide) (by omega) (fun hb5 => False.elim (by exact absurd hb5 (by decide))) (fun hb5 => ?_)
    refine lf_iconst d_W_told_8 (v := Int32.ofInt ((0 : Nat) : Int)) rfl ?_
    refine lf_goto d_W_told_9 (tgt := 27) (by decide) ?_
    refine lf_istore_n d_W_told_27 rfl (by decide +kernel) (L2 := [(3, _), (0, _), (1, _), (2, _)]) rfl ?_
    refine lf_iload_n d_W_told_28 rfl rfl ?_
    refine lf_iconst d_W_told_29 (v := Int32.ofInt ((1 : Nat) : Int)) rfl ?_
    refine gi_icmp_eq d_W_told_30 (tgt := 38) (by decide) (by omega) (fun hb30 => ?_) (fun hb30 => False.elim (by exact absurd hb30 (by decide)))
    refine lf_iconst d_W_told_38 (v := Int32.ofInt ((1 : Nat) : Int)) rfl ?_
    refine lf_goto d_W_told_39 (tgt := 55) (by decide) ?_
    refine lf_istore d_W_told_55 (by decide +kernel) (L2 := [(4, _), (3, _), (0, _), (1, _), (2, _)]) rfl ?_
    refine lf_iload_n d_W_told_57 rfl rfl ?_
    refine lf_bipush d_W_told_58 (v := Int32.ofInt ((97 : Nat) : Int)) (by decide +kernel) ?_
    refine gi_icmp_eq d_W_told_60 (tgt := 69) (by decide) (by omega) (fun hb60 => False.elim (by exact absurd hb60 (by decide))) (fun hb60 => ?_)
    refine lf_iload_n d_W_told_63 rfl rfl ?_
    refine lf_bipush d_W_told_64 (v := Int32.ofInt ((110 : Nat) : Int)) (by decide +kernel) ?_
    refine gi_icmp_ne d_W_told_66 (tgt := 73) (by decide) (by omega) (fun hb66 => ?_) (fun hb66 => False.elim (by exact absurd hb66 (by decide)))
    refine lf_iload_n d_W_told_73 rfl rfl ?_
    refine lf_bipush d_W_told_74 (v := Int32.ofInt ((111 : Nat) : Int)) (by decide +kernel) ?_
    refine gi_icmp_eq d_W_told_76 (tgt := 85) (by decide) (by omega) (fun hb76 => False.elim (by exact absurd hb76 (by decide))) (fun hb76 => ?_)
    refine lf_iload_n d_W_told_79 rfl rfl ?_
    refine lf_bipush d_W_told_80 (v := Int32.ofInt ((114 : Nat) : Int)) (by decide +kernel) ?_
    refine gi_icmp_ne d_W_told_82 (tgt := 90) (by decide) (by omega) (fun hb82 => ?_) (fun hb82 => False.elim (by exact absurd hb82 (by decide)))
    refine lf_iload_n d_W_told_90 rfl rfl ?_
    refine lf_bipush d_W_told_91 (v := Int32.ofInt ((120 : Nat) : Int)) (by decide +kernel) ?_
    refine gi_icmp_ne d_W_told_93 (tgt := 116) (by decide) (by omega) (fun hb93 => ?_) (fun hb93 => False.elim (by exact absurd hb93 (by decide)))
    refine lf_iload_n d_W_told_116 rfl rfl ?_
    refine lf_istore d_W_told_117 (by decide +kernel) (L2 := [(5, _), (4, _), (3, _), (0, _), (1, _), (2, _)]) rfl ?_
    refine lf_iload d_W_told_119 rfl ?_
    refine lf_iconst d_W_told_121 (v := Int32.ofInt ((2 : Nat) : Int)) rfl ?_
    refine gi_icmp_eq d_W_told_122 (tgt := 143) (by decide) (by omega) (fun hb122 => False.elim (by exact absurd hb122 (by decide))) (fun hb122 => ?_)
    refine lf_iload_n d_W_told_125 rfl rfl ?_
    refine lf_bipush d_W_told_126 (v := Int32.ofInt ((110 : Nat) : Int)) (by decide +kernel) ?_
    refine gi_icmp_eq d_W_told_128 (tgt := 148) (by decide) (by omega) (fun hb128 => False.elim (by exact absurd hb128 (by decide))) (fun hb128 => ?_)
    refine lf_iload_n d_W_told_131 rfl rfl ?_
    refine lf_bipush d_W_told_132 (v := Int32.ofInt ((114 : Nat) : Int)) (by decide +kernel) ?_
    refine gi_icmp_eq d_W_told_134 (tgt := 148) (by decide) (by omega) (fun hb134 => False.elim (by exact absurd hb134 (by decide))) (fun hb134 => ?_)
    refine lf_iload_n d_W_told_137 rfl rfl ?_
    refine lf_bipush d_W_told_138 (v := Int32.ofInt ((118 : Nat) : Int)) (by decide +kernel) ?_
    refine gi_icmp_eq d_W_told_140 (tgt := 148) (by decide) (by omega) (fun hb140 => False.elim (by exact absurd hb140 (by decide))) (fun hb140 => ?_)
    refine lf_iload d_W_told_143 rfl ?_
    refine lf_goto d_W_told_145 (tgt := 152) (by decide) ?_
    refine gw_iret d_W_told_152 rfl ?_
    exact ⟨rfl, rfl, rfl, rfl⟩
  · refine lf_iload_n d_W_told_0 rfl rfl ?_
    refine gi_if_eq d_W_told_1 (tgt := 8) (by decide) (by omega) (fun hb1 => False.elim (by exact absurd hb1 (by decide))) (fun hb1 => ?_)
    refine lf_iload_n d_W_told_4 rfl rfl ?_
    refine gi_if_ne d_W_told_5 (tgt := 12) (by decide) (by omega) (fun hb5 => ?_) (fun hb5 => False.elim (by exact absurd hb5 (by decide)))
    refine lf_iload_n d_W_told_12 rfl rfl ?_
    refine lf_iconst d_W_told_13 (v := Int32.ofInt ((1 : Nat) : Int)) rfl ?_
    refine gi_icmp_ne d_W_told_14 (tgt := 26) (by decide) (by omega) (fun hb14 => False.elim (by exact absurd hb14 (by decide))) (fun hb14 => ?_)
    refine lf_iload_n d_W_told_17 rfl rfl ?_
    refine lf_iconst d_W_told_18 (v := Int32.ofInt ((1 : Nat) : Int)) rfl ?_
    refine gi_icmp_ne d_W_told_19 (tgt := 26) (by decide) (by omega) (fun hb19 => False.elim (by exact absurd hb19 (by decide))) (fun hb19 => ?_)
    refine lf_iconst d_W_told_22 (v := Int32.ofInt ((1 : Nat) : Int)) rfl ?_
    refine lf_goto d_W_told_23 (tgt := 27) (by decide) ?_
    refine lf_istore_n d_W_told_27 rfl (by decide +kernel) (L2 := [(3, _), (0, _), (1, _), (2, _)]) rfl ?_
    refine lf_iload_n d_W_told_28 rfl rfl ?_
    refine lf_iconst d_W_told_29 (v := Int32.ofInt ((1 : Nat) : Int)) rfl ?_
    refine gi_icmp_eq d_W_told_30 (tgt := 38) (by decide) (by omega) (fun hb30 => ?_) (fun hb30 => False.elim (by exact absurd hb30 (by decide)))
    refine lf_iconst d_W_told_38 (v := Int32.ofInt ((1 : Nat) : Int)) rfl ?_
    refine lf_goto d_W_told_39 (tgt := 55) (by decide) ?_
    refine lf_istore d_W_told_55 (by decide +kernel) (L2 := [(4, _), (3, _), (0, _), (1, _), (2, _)]) rfl ?_
    refine lf_iload_n d_W_told_57 rfl rfl ?_
    refine lf_bipush d_W_told_58 (v := Int32.ofInt ((97 : Nat) : Int)) (by decide +kernel) ?_
    refine gi_icmp_eq d_W_told_60 (tgt := 69) (by decide) (by omega) (fun hb60 => False.elim (by exact absurd hb60 (by decide))) (fun hb60 => ?_)
    refine lf_iload_n d_W_told_63 rfl rfl ?_
    refine lf_bipush d_W_told_64 (v := Int32.ofInt ((110 : Nat) : Int)) (by decide +kernel) ?_
    refine gi_icmp_ne d_W_told_66 (tgt := 73) (by decide) (by omega) (fun hb66 => ?_) (fun hb66 => False.elim (by exact absurd hb66 (by decide)))
    refine lf_iload_n d_W_told_73 rfl rfl ?_
    refine lf_bipush d_W_told_74 (v := Int32.ofInt ((111 : Nat) : Int)) (by decide +kernel) ?_
    refine gi_icmp_eq d_W_told_76 (tgt := 85) (by decide) (by omega) (fun hb76 => False.elim (by exact absurd hb76 (by decide))) (fun hb76 => ?_)
    refine lf_iload_n d_W_told_79 rfl rfl ?_
    refine lf_bipush d_W_told_80 (v := Int32.ofInt ((114 : Nat) : Int)) (by decide +kernel) ?_
    refine gi_icmp_ne d_W_told_82 (tgt := 90) (by decide) (by omega) (fun hb82 => ?_) (fun hb82 => False.elim (by exact absurd hb82 (by decide)))
    refine lf_iload_n d_W_told_90 rfl rfl ?_
    refine lf_bipush d_W_told_91 (v := Int32.ofInt ((120 : Nat) : Int)) (by decide +kernel) ?_
    refine gi_icmp_ne d_W_told_93 (tgt := 116) (by decide) (by omega) (fun hb93 => ?_) (fun hb93 => False.elim (by exact absurd hb93 (by decide)))
    refine lf_iload_n d_W_told_116 rfl rfl ?_
    refine lf_istore d_W_told_117 (by decide +kernel) (L2 := [(5, _), (4, _), (3, _), (0, _), (1, _), (2, _)]) rfl ?_
    refine lf_iload d_W_told_119 rfl ?_
    refine lf_iconst d_W_told_121 (v := Int32.ofInt ((2 : Nat) : Int)) rfl ?_
    refine gi_icmp_eq d_W_told_122 (tgt := 143) (by decide) (by omega) (fun hb122 => False.elim (by exact absurd hb122 (by decide))) (fun hb122 => ?_)
    refine lf_iload_n d_W_told_125 rfl rfl ?_
    refine lf_bipush d_W_told_126 (v := Int32.ofInt ((110 : Nat) : Int)) (by decide +kernel) ?_
    refine gi_icmp_eq d_W_told_128 (tgt := 148) (by decide) (by omega) (fun hb128 => False.elim (by exact absurd hb128 (by decide))) (fun hb128 => ?_)
    refine lf_iload_n d_W_told_131 rfl rfl ?_
    refine lf_bipush d_W_told_132 (v := Int32.ofInt ((114 : Nat) : Int)) (by decide +kernel) ?_
    refine gi_icmp_eq d_W_told_134 (tgt := 148) (by decide) (by omega) (fun hb134 => False.elim (by exact absurd hb134 (by decide))) (fun hb134 => ?_)
    refine lf_iload_n d_W_told_137 rfl rfl ?_
    refine lf_bipush d_W_told_138 (v := Int32.ofInt ((118 : Nat) : Int)) (by decide +kernel) ?_
    refine gi_icmp_eq d_W_told_140 (tgt := 148) (by decide) (by omega) (fun hb140 => False.elim (by exact absurd hb140 (by decide))) (fun hb140 => ?_)
    refine lf_iload d_W_told_143 rfl ?_
    refine lf_goto d_W_told_145 (tgt := 152) (by decide) ?_
    refine gw_iret d_W_told_152 rfl ?_
    exact ⟨rfl, rfl, rfl, rfl⟩
  · refine lf_iload_n d_W_told_0 rfl rfl ?_
    refine gi_if_eq d_W_told_1 (tgt := 8) (by decide) (by omega) (fun hb1 => False.elim (by exact absurd hb1 (by decide))) (fun hb1 => ?_)
    refine lf_iload_n d_W_told_4 rfl rfl ?_
    refine gi_if_ne d_W_told_5 (tgt := 12) (by decide) (by omega) (fun hb5 => ?_) (fun hb5 => False.elim (by exact absurd hb5 (by decide)))
    refine lf_iload_n d_W_told_12 rfl rfl ?_
    refine lf_iconst d_W_told_13 (v := Int32.ofInt ((1 : Nat) : Int)) rfl ?_
    refine gi_icmp_ne d_W_told_14 (tgt := 26) (by decide) (by omega) (fun hb14 => False.elim (by exact absurd hb14 (by decide))) (fun hb14 => ?_)
    refine lf_iload_n d_W_told_17 rfl rfl ?_
    refine lf_iconst d_W_told_18 (v := Int32.ofInt ((1 : Nat) : Int)) rfl ?_
    refine gi_icmp_ne d_W_told_19 (tgt := 26) (by decide) (by omega) (fun hb19 => ?_) (fun hb19 => False.elim (by exact absurd hb19 (by decide)))
    refine lf_iconst d_W_told_26 (v := Int32.ofInt ((2 : Nat) : Int)) rfl ?_
    refine lf_istore_n d_W_told_27 rfl (by decide +kernel) (L2 := [(3, _), (0, _), (1, _), (2, _)]) rfl ?_
    refine lf_iload_n d_W_told_28 rfl rfl ?_
    refine lf_iconst d_W_told_29 (v := Int32.ofInt ((1 : Nat) : Int)) rfl ?_
    refine gi_icmp_eq d_W_told_30 (tgt := 38) (by decide) (by omega) (fun hb30 => ?_) (fun hb30 => False.elim (by exact absurd hb30 (by decide)))
    refine lf_iconst d_W_told_38 (v := Int32.ofInt ((1 : Nat) : Int)) rfl ?_
    refine lf_goto d_W_told_39 (tgt := 55) (by decide) ?_
    refine lf_istore d_W_told_55 (by decide +kernel) (L2 := [(4, _), (3, _), (0, _), (1, _), (2, _)]) rfl ?_
    refine lf_iload_n d_W_told_57 rfl rfl ?_
    refine lf_bipush d_W_told_58 (v := Int32.ofInt ((97 : Nat) : Int)) (by decide +kernel) ?_
    refine gi_icmp_eq d_W_told_60 (tgt := 69) (by decide) (by omega) (fun hb60 => False.elim (by exact absurd hb60 (by decide))) (fun hb60 => ?_)
    refine lf_iload_n d_W_told_63 rfl rfl ?_
    refine lf_bipush d_W_told_64 (v := Int32.ofInt ((110 : Nat) : Int)) (by decide +kernel) ?_
    refine gi_icmp_ne d_W_told_66 (tgt := 73) (by decide) (by omega) (fun hb66 => ?_) (fun hb66 => False.elim (by exact absurd hb66 (by decide)))
    refine lf_iload_n d_W_told_73 rfl rfl ?_
    refine lf_bipush d_W_told_74 (v := Int32.ofInt ((111 : Nat) : Int)) (by decide +kernel) ?_
    refine gi_icmp_eq d_W_told_76 (tgt := 85) (by decide) (by omega) (fun hb76 => False.elim (by exact absurd hb76 (by decide))) (fun hb76 => ?_)
    refine lf_iload_n d_W_told_79 rfl rfl ?_
    refine lf_bipush d_W_told_80 (v := Int32.ofInt ((114 : Nat) : Int)) (by decide +kernel) ?_
    refine gi_icmp_ne d_W_told_82 (tgt := 90) (by decide) (by omega) (fun hb82 => ?_) (fun hb82 => False.elim (by exact absurd hb82 (by decide)))
    refine lf_iload_n d_W_told_90 rfl rfl ?_
    refine lf_bipush d_W_told_91 (v := Int32.ofInt ((120 : Nat) : Int)) (by decide +kernel) ?_
    refine gi_icmp_ne d_W_told_93 (tgt := 116) (by decide) (by omega) (fun hb93 => ?_) (fun hb93 => False.elim (by exact absurd hb93 (by decide)))
    refine lf_iload_n d_W_told_116 rfl rfl ?_
    refine lf_istore d_W_told_117 (by decide +kernel) (L2 := [(5, _), (4, _), (3, _), (0, _), (1, _), (2, _)]) rfl ?_
    refine lf_iload d_W_told_119 rfl ?_
    refine lf_iconst d_W_told_121 (v := Int32.ofInt ((2 : Nat) : Int)) rfl ?_
    refine gi_icmp_eq d_W_told_122 (tgt := 143) (by decide) (by omega) (fun hb122 => False.elim (by exact absurd hb122 (by decide))) (fun hb122 => ?_)
    refine lf_iload_n d_W_told_125 rfl rfl ?_
    refine lf_bipush d_W_told_126 (v := Int32.ofInt ((110 : Nat) : Int)) (by decide +kernel) ?_
    refine gi_icmp_eq d_W_told_128 (tgt := 148) (by decide) (by omega) (fun hb128 => False.elim (by exact absurd hb128 (by decide))) (fun hb128 => ?_)
    refine lf_iload_n d_W_told_131 rfl rfl ?_
    refine lf_bipush d_W_told_132 (v := Int32.ofInt ((114 : Nat) : Int)) (by decide +kernel) ?_
    refine gi_icmp_eq d_W_told_134 (tgt := 148) (by decide) (by omega) (fun hb134 => False.elim (by exact absurd hb134 (by decide))) (fun hb134 => ?_)
    refine lf_iload_n d_W_told_137 rfl rfl ?_
    refine lf_bipush d_W_told_138 (v := Int32.ofInt ((118 : Nat) : Int)) (by decide +kernel) ?_
    refine gi_icmp_eq d_W_told_140 (tgt := 148) (by decide) (by omega) (fun hb140 => False.elim (by exact absurd hb140 (by decide))) (fun hb140 => ?_)
    refine lf_iload d_W_told_143 rfl ?_
    refine lf_goto d_W_told_145 (tgt := 152) (by decide) ?_
    refine gw_iret d_W_told_152 rfl ?_
    exact ⟨rfl, rfl, rfl, rfl⟩
  · refine lf_iload_n d_W_told_0 rfl rfl ?_
    refine gi_if_eq d_W_told_1 (tgt := 8) (by decide) (by omega) (fun hb1 => False.elim (by exact absurd hb1 (by decide))) (fun hb1 => ?_)
    refine lf_iload_n d_W_told_4 rfl rfl ?_
    refine gi_if_ne d_W_told_5 (tgt := 12) (by decide) (by omega) (fun hb5 => False.elim (by exact absurd hb5 (by decide))) (fun hb5 => ?_)
    refine lf_iconst d_W_told_8 (v := Int32.ofInt ((0 : Nat) : Int)) rfl ?_
    refine lf_goto d_W_told_9 (tgt := 27) (by decide) ?_
    refine lf_istore_n d_W_told_27 rfl (by decide +kernel) (L2 := [(3, _), (0, _), (1, _), (2, _)]) rfl ?_
    refine lf_iload_n d_W_told_28 rfl rfl ?_
    refine lf_iconst d_W_told_29 (v := Int32.ofInt ((1 : Nat) : Int)) rfl ?_
    refine gi_icmp_eq d_W_told_30 (tgt := 38) (by decide) (by omega) (fun hb30 => False.elim (by exact absurd hb30 (by decide))) (fun hb30 => ?_)
    refine lf_iload_n d_W_told_33 rfl rfl ?_
    refine lf_iconst d_W_told_34 (v := Int32.ofInt ((1 : Nat) : Int)) rfl ?_
    refine gi_icmp_ne d_W_told_35 (tgt := 42) (by decide) (by omega) (fun hb35 => ?_) (fun hb35 => False.elim (by exact absurd hb35 (by decide)))
    refine lf_iload_n d_W_told_42 rfl rfl ?_
    refine gi_if_ne d_W_told_43 (tgt := 54) (by decide) (by omega) (fun hb43 => ?_) (fun hb43 => False.elim (by exact absurd hb43 (by decide)))
    refine lf_iconst d_W_told_54 (v := Int32.ofInt ((2 : Nat) : Int)) rfl ?_
    refine lf_istore d_W_told_55 (by decide +kernel) (L2 := [(4, _), (3, _), (0, _), (1, _), (2, _)]) rfl ?_
    refine lf_iload_n d_W_told_57 rfl rfl ?_
    refine lf_bipush d_W_told_58 (v := Int32.ofInt ((97 : Nat) : Int)) (by decide +kernel) ?_
    refine gi_icmp_eq d_W_told_60 (tgt := 69) (by decide) (by omega) (fun hb60 => False.elim (by exact absurd hb60 (by decide))) (fun hb60 => ?_)
    refine lf_iload_n d_W_told_63 rfl rfl ?_
    refine lf_bipush d_W_told_64 (v := Int32.ofInt ((110 : Nat) : Int)) (by decide +kernel) ?_
    refine gi_icmp_ne d_W_told_66 (tgt := 73) (by decide) (by omega) (fun hb66 => ?_) (fun hb66 => False.elim (by exact absurd hb66 (by decide)))
    refine lf_iload_n d_W_told_73 rfl rfl ?_
    refine lf_bipush d_W_told_74 (v := Int32.ofInt ((111 : Nat) : Int)) (by decide +kernel) ?_
    refine gi_icmp_eq d_W_told_76 (tgt := 85) (by decide) (by omega) (fun hb76 => False.elim (by exact absurd hb76 (by decide))) (fun hb76 => ?_)
    refine lf_iload_n d_W_told_79 rfl rfl ?_
    refine lf_bipush d_W_told_80 (v := Int32.ofInt ((114 : Nat) : Int)) (by decide +kernel) ?_
    refine gi_icmp_ne d_W_told_82 (tgt := 90) (by decide) (by omega) (fun hb82 => ?_) (fun hb82 => False.elim (by exact absurd hb82 (by decide)))
    refine lf_iload_n d_W_told_90 rfl rfl ?_
    refine lf_bipush d_W_told_91 (v := Int32.ofInt ((120 : Nat) : Int)) (by decide +kernel) ?_
    refine gi_icmp_ne d_W_told_93 (tgt := 116) (by decide) (by omega) (fun hb93 => ?_) (fun hb93 => False.elim (by exact absurd hb93 (by decide)))
    refine lf_iload_n d_W_told_116 rfl rfl ?_
    refine lf_istore d_W_told_117 (by decide +kernel) (L2 := [(5, _), (4, _), (3, _), (0, _), (1, _), (2, _)]) rfl ?_
    refine lf_iload d_W_told_119 rfl ?_
    refine lf_iconst d_W_told_121 (v := Int32.ofInt ((2 : Nat) : Int)) rfl ?_
    refine gi_icmp_eq d_W_told_122 (tgt := 143) (by decide) (by omega) (fun hb122 => ?_) (fun hb122 => False.elim (by exact absurd hb122 (by decide)))
    refine lf_iload d_W_told_143 rfl ?_
    refine lf_goto d_W_told_145 (tgt := 152) (by decide) ?_
    refine gw_iret d_W_told_152 rfl ?_
    exact ⟨rfl, rfl, rfl, rfl⟩
  · refine lf_iload_n d_W_told_0 rfl rfl ?_
    refine gi_if_eq d_W_told_1 (tgt := 8) (by decide) (by omega) (fun hb1 => False.elim (by exact absurd hb1 (by decide))) (fun hb1 => ?_)
    refine lf_iload_n d_W_told_4 rfl rfl ?_
    refine gi_if_ne d_W_told_5 (tgt := 12) (by decide) (by omega) (fun hb5 => ?_) (fun hb5 => False.elim (by exact absurd hb5 (by decide)))
    refine lf_iload_n d_W_told_12 rfl rfl ?_
    refine lf_iconst d_W_told_13 (v := Int32.ofInt ((1 : Nat) : Int)) rfl ?_
    refine gi_icmp_ne d_W_told_14 (tgt := 26) (by decide) (by omega) (fun hb14 => ?_) (fun hb14 => False.elim (by exact absurd hb14 (by decide)))
    refine lf_iconst d_W_told_26 (v := Int32.ofInt ((2 : Nat) : Int)) rfl ?_
    refine lf_istore_n d_W_told_27 rfl (by decide +kernel) (L2 := [(3, _), (0, _), (1, _), (2, _)]) rfl ?_
    refine lf_iload_n d_W_told_28 rfl rfl ?_
    refine lf_iconst d_W_told_29 (v := Int32.ofInt ((1 : Nat) : Int)) rfl ?_
    refine gi_icmp_eq d_W_told_30 (tgt := 38) (by decide) (by omega) (fun hb30 => False.elim (by exact absurd hb30 (by decide))) (fun hb30 => ?_)
    refine lf_iload_n d_W_told_33 rfl rfl ?_
    refine lf_iconst d_W_told_34 (v := Int32.ofInt ((1 : Nat) : Int)) rfl ?_
    refine gi_icmp_ne d_W_told_35 (tgt := 42) (by decide) (by omega) (fun hb35 => False.elim (by exact absurd hb35 (by decide))) (fun hb35 => ?_)
    refine lf_iconst d_W_told_38 (v := Int32.ofInt ((1 : Nat) : Int)) rfl ?_
    refine lf_goto d_W_told_39 (tgt := 55) (by decide) ?_
    refine lf_istore d_W_told_55 (by decide +kernel) (L2 := [(4, _), (3, _), (0, _), (1, _), (2, _)]) rfl ?_
    refine lf_iload_n d_W_told_57 rfl rfl ?_
    refine lf_bipush d_W_told_58 (v := Int32.ofInt ((97 : Nat) : Int)) (by decide +kernel) ?_
    refine gi_icmp_eq d_W_told_60 (tgt := 69) (by decide) (by omega) (fun hb60 => False.elim (by exact absurd hb60 (by decide))) (fun hb60 => ?_)
    refine lf_iload_n d_W_told_63 rfl rfl ?_
    refine lf_bipush d_W_told_64 (v := Int32.ofInt ((110 : Nat) : Int)) (by decide +kernel) ?_
    refine gi_icmp_ne d_W_told_66 (tgt := 73) (by decide) (by omega) (fun hb66 => ?_) (fun hb66 => False.elim (by exact absurd hb66 (by decide)))
    refine lf_iload_n d_W_told_73 rfl rfl ?_
    refine lf_bipush d_W_told_74 (v := Int32.ofInt ((111 : Nat) : Int)) (by decide +kernel) ?_
    refine gi_icmp_eq d_W_told_76 (tgt := 85) (by decide) (by omega) (fun hb76 => False.elim (by exact absurd hb76 (by decide))) (fun hb76 => ?_)
    refine lf_iload_n d_W_told_79 rfl rfl ?_
    refine lf_bipush d_W_told_80 (v := Int32.ofInt ((114 : Nat) : Int)) (by decide +kernel) ?_
    refine gi_icmp_ne d_W_told_82 (tgt := 90) (by decide) (by omega) (fun hb82 => ?_) (fun hb82 => False.elim (by exact absurd hb82 (by decide)))
    refine lf_iload_n d_W_told_90 rfl rfl ?_
    refine lf_bipush d_W_told_91 (v := Int32.ofInt ((120 : Nat) : Int)) (by decide +kernel) ?_
    refine gi_icmp_ne d_W_told_93 (tgt := 116) (by decide) (by omega) (fun hb93 => ?_) (fun hb93 => False.elim (by exact absurd hb93 (by decide)))
    refine lf_iload_n d_W_told_116 rfl rfl ?_
    refine lf_istore d_W_told_117 (by decide +kernel) (L2 := [(5, _), (4, _), (3, _), (0, _), (1, _), (2, _)]) rfl ?_
    refine lf_iload d_W_told_119 rfl ?_
    refine lf_iconst d_W_told_121 (v := Int32.ofInt ((2 : Nat) : Int)) rfl ?_
    refine gi_icmp_eq d_W_told_122 (tgt := 143) (by decide) (by omega) (fun hb122 => ?_) (fun hb122 => False.elim (by exact absurd hb122 (by decide)))
    refine lf_iload d_W_told_143 rfl ?_
    refine lf_goto d_W_told_145 (tgt := 152) (by decide) ?_
    refine gw_iret d_W_told_152 rfl ?_
    exact ⟨rfl, rfl, rfl, rfl⟩
  · refine lf_iload_n d_W_told_0 rfl rfl ?_
    refine gi_if_eq d_W_told_1 (tgt := 8) (by decide) (by omega) (fun hb1 => False.elim (by exact absurd hb1 (by decide))) (fun hb1 => ?_)
    refine lf_iload_n d_W_told_4 rfl rfl ?_
    refine gi_if_ne d_W_told_5 (tgt := 12) (by decide) (by omega) (fun hb5 => ?_) (fun hb5 => False.elim (by exact absurd hb5 (by decide)))
    refine lf_iload_n d_W_told_12 rfl rfl ?_
    refine lf_iconst d_W_told_13 (v := Int32.ofInt ((1 : Nat) : Int)) rfl ?_
    refine gi_icmp_ne d_W_told_14 (tgt := 26) (by decide) (by omega) (fun hb14 => ?_) (fun hb14 => False.elim (by exact absurd hb14 (by decide)))
    refine lf_iconst d_W_told_26 (v := Int32.ofInt ((2 : Nat) : Int)) rfl ?_
    refine lf_istore_n d_W_told_27 rfl (by decide +kernel) (L2 := [(3, _), (0, _), (1, _), (2, _)]) rfl ?_
    refine lf_iload_n d_W_told_28 rfl rfl ?_
    refine lf_iconst d_W_told_29 (v := Int32.ofInt ((1 : Nat) : Int)) rfl ?_
    refine gi_icmp_eq d_W_told_30 (tgt := 38) (by decide) (by omega) (fun hb30 => False.elim (by exact absurd hb30 (by decide))) (fun hb30 => ?_)
    refine lf_iload_n d_W_told_33 rfl rfl ?_
    refine lf_iconst d_W_told_34 (v := Int32.ofInt ((1 : Nat) : Int)) rfl ?_
    refine gi_icmp_ne d_W_told_35 (tgt := 42) (by decide) (by omega) (fun hb35 => ?_) (fun hb35 => False.elim (by exact absurd hb35 (by decide)))
    refine lf_iload_n d_W_told_42 rfl rfl ?_
    refine gi_if_ne d_W_told_43 (tgt := 54) (by decide) (by omega) (fun hb43 => ?_) (fun hb43 => False.elim (by exact absurd hb43 (by decide)))
    refine lf_iconst d_W_told_54 (v := Int32.ofInt ((2 : Nat) : Int)) rfl ?_
    refine lf_istore d_W_told_55 (by decide +kernel) (L2 := [(4, _), (3, _), (0, _), (1, _), (2, _)]) rfl ?_
    refine lf_iload_n d_W_told_57 rfl rfl ?_
    refine lf_bipush d_W_told_58 (v := Int32.ofInt ((97 : Nat) : Int)) (by decide +kernel) ?_
    refine gi_icmp_eq d_W_told_60 (tgt := 69) (by decide) (by omega) (fun hb60 => False.elim (by exact absurd hb60 (by decide))) (fun hb60 => ?_)
    refine lf_iload_n d_W_told_63 rfl rfl ?_
    refine lf_bipush d_W_told_64 (v := Int32.ofInt ((110 : Nat) : Int)) (by decide +kernel) ?_
    refine gi_icmp_ne d_W_told_66 (tgt := 73) (by decide) (by omega) (fun hb66 => ?_) (fun hb66 => False.elim (by exact absurd hb66 (by decide)))
    refine lf_iload_n d_W_told_73 rfl rfl ?_
    refine lf_bipush d_W_told_74 (v := Int32.ofInt ((111 : Nat) : Int)) (by decide +kernel) ?_
    refine gi_icmp_eq d_W_told_76 (tgt := 85) (by decide) (by omega) (fun hb76 => False.elim (by exact absurd hb76 (by decide))) (fun hb76 => ?_)
    refine lf_iload_n d_W_told_79 rfl rfl ?_
    refine lf_bipush d_W_told_80 (v := Int32.ofInt ((114 : Nat) : Int)) (by decide +kernel) ?_
    refine gi_icmp_ne d_W_told_82 (tgt := 90) (by decide) (by omega) (fun hb82 => ?_) (fun hb82 => False.elim (by exact absurd hb82 (by decide)))
    refine lf_iload_n d_W_told_90 rfl rfl ?_
    refine lf_bipush d_W_told_91 (v := Int32.ofInt ((120 : Nat) : Int)) (by decide +kernel) ?_
    refine gi_icmp_ne d_W_told_93 (tgt := 116) (by decide) (by omega) (fun hb93 => ?_) (fun hb93 => False.elim (by exact absurd hb93 (by decide)))
    refine lf_iload_n d_W_told_116 rfl rfl ?_
    refine lf_istore d_W_told_117 (by decide +kernel) (L2 := [(5, _), (4, _), (3, _), (0, _), (1, _), (2, _)]) rfl ?_
    refine lf_iload d_W_told_119 rfl ?_
    refine lf_iconst d_W_told_121 (v := Int32.ofInt ((2 : Nat) : Int)) rfl ?_
    refine gi_icmp_eq d_W_told_122 (tgt := 143) (by decide) (by omega) (fun hb122 => ?_) (fun hb122 => False.elim (by exact absurd hb122 (by decide)))
    refine lf_iload d_W_told_143 rfl ?_
    refine lf_goto d_W_told_145 (tgt := 152) (by decide) ?_
    refine gw_iret d_W_told_152 rfl ?_
    exact ⟨rfl, rfl, rfl, rfl⟩
theorem w_told (hx : HX X L9 xs) {kd : Int} (h : KDq kd) {a b : Nat} (ha : a ≤ 2) (hb : b ≤ 2) : EVp TT cl6 X mi_W_told 0 [.int (Int32.ofInt (kd)), .int (Int32.ofInt ((a : Nat) : Int)), .int (Int32.ofInt ((b : Nat) : Int))] sh I J (.int (Int32.ofInt ((tldN kd a b : Nat) : Int))) := by
  rcases h with rfl | rfl | rfl | rfl | rfl | rfl | rfl
  · exact w_told97 hx ha hb
  · exact w_told110 hx ha hb
  · exact w_told111 hx ha hb
  · exact w_told114 hx ha hb
  · exact w_told120 hx ha hb
  · exact w_told118 hx ha hb
  · exact w_told98 hx ha hb
end LW1
