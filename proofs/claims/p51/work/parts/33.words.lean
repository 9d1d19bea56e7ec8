section VT1
variable {X : XT} {L9 : Nat} {xs : Nat → Int32} {sh : sM} {I : mI} {J : mJ}

variable {D : mF} {P : Option Value → mF → Prop} {PX : String → mF → Prop} {kc ks : Nat}

theorem kw_lt {k n w W : Nat} (hk : k < n) (hw : w < W) : k * W + w < n * W := by
  have h : k * W + W ≤ n * W := by
    rw [← Nat.succ_mul]
    exact Nat.mul_le_mul_right W hk
  omega
theorem nw_le {n W : Nat} (hn : n ≤ 80) (hW : W ≤ 256) : n * W ≤ 2147483647 := Nat.le_trans (Nat.mul_le_mul hn hW) (by decide)
def hhN (b : Nat) : Int64 := if b < 6 then hhv b else 0
/-- an int as a number of places to move by -/
def shc (k : Nat) : Int64 := (Int32.ofInt (k : Int)).toInt64 &&& 63
def shu (k : Nat) : UInt64 := (Int32.ofInt (k : Int)).toInt64.toUInt64 &&& Int64.toUInt64 63
def gOne (kd : Int) (oa za ob zb : Int64) : Int64 := if kd = 97 then oa &&& ob else if kd = 110 then za ||| zb else if kd = 111 then oa ||| ob else if kd = 114 then za &&& zb else if kd = 120 then oa &&& zb ||| za &&& ob else if kd = 118 then za else oa
def gZero (kd : Int) (oa za ob zb : Int64) : Int64 := if kd = 97 then za ||| zb else if kd = 110 then oa &&& ob else if kd = 111 then za &&& zb else if kd = 114 then oa ||| ob else if kd = 120 then oa &&& ob ||| za &&& zb else if kd = 118 then oa else za
theorem m_highHalf (hx : HX X L9 xs) {b : Nat} (hb : b < 6) : EVp TT cl6 X mi_M_highHalf 0 [.int (Int32.ofInt ((b : Nat) : Int))] sh I J (.long (hhv b)) := by
  refine gw_enter (hx_ok hx) (by decide +kernel) (Nat.le_of_ble_eq_true rfl) (L := [(0, _)]) rfl ?_
  refine lf_iload_n d_M_highHalf_0 rfl rfl ?_
  refine gi_if_lt d_M_highHalf_1 (tgt := 20) (by decide) (by omega) (fun hb1 => False.elim (by omega)) (fun hb1 => ?_)
  refine lf_iload_n d_M_highHalf_4 rfl rfl ?_
  refine gi_pushs (s_M_highHalf_5 hx) ?_
  refine gi_slen d_M_highHalf_8 (by decide) (hx_hh hx) ?_
  refine gi_icmp_ge d_M_highHalf_9 (tgt := 20) (by decide) (by omega) (fun hb9 => False.elim (by omega)) (fun hb9 => ?_)
  refine gi_pushs (s_M_highHalf_12 hx) ?_
  refine lf_iload_n d_M_highHalf_15 rfl rfl ?_
  refine gi_slaload d_M_highHalf_16 (by decide) (hx_hh hx) (by omega) rfl ?_
  refine lf_goto d_M_highHalf_17 (tgt := 21) (by decide) ?_
  refine gw_lret d_M_highHalf_21 rfl ?_
  exact ⟨rfl, rfl, rfl, rfl⟩
theorem m_oneOf (hx : HX X L9 xs) {kd : Int} {oa za ob zb : Int64} (hk : kd = 97 ∨ kd = 110 ∨ kd = 111 ∨ kd = 114 ∨ kd = 120 ∨ kd = 118 ∨ kd = 98) : EVp TT cl6 X mi_M_oneOf 0 [.int (Int32.ofInt (kd)), .long oa, .long za, .long ob, .long zb] sh I J (.long (gOne kd oa za ob zb)) := by
  refine gw_enter (hx_ok hx) (by decide +kernel) (Nat.le_of_ble_eq_true rfl) (L := [(0, _), (1, _), (3, _), (5, _), (7, _)]) rfl ?_
  rcases hk with rfl | rfl | rfl | rfl | rfl | rfl | rfl
  · refine lf_iload_n d_M_oneOf_0 rfl rfl ?_
    refine lf_lookup (off := 59) (tgt := 60) d_M_oneOf_1 (by decide) (by decide) (by decide) ?_
    refine lf_lload_n d_M_oneOf_60 rfl rfl ?_
    refine lf_lload d_M_oneOf_61 rfl ?_
    refine lf_land d_M_oneOf_63 ?_
    refine gw_lret d_M_oneOf_64 rfl ?_
    exact ⟨rfl, rfl, rfl, rfl⟩
  · refine lf_iload_n d_M_oneOf_0 rfl rfl ?_
    refine lf_lookup (off := 64) (tgt := 65) d_M_oneOf_1 (by decide) (by decide) (by decide) ?_
    refine lf_lload_n d_M_oneOf_65 rfl rfl ?_
    refine lf_lload d_M_oneOf_66 rfl ?_
    refine lf_lor d_M_oneOf_68 ?_
    refine gw_lret d_M_oneOf_69 rfl ?_
    exact ⟨rfl, rfl, rfl, rfl⟩
  · refine lf_iload_n d_M_oneOf_0 rfl rfl ?_
    refine lf_lookup (off := 69) (tgt := 70) d_M_oneOf_1 (by decide) (by decide) (by decide) ?_
    refine lf_lload_n d_M_oneOf_70 rfl rfl ?_
    refine lf_lload d_M_oneOf_71 rfl ?_
    refine lf_lor d_M_oneOf_73 ?_
    refine gw_lret d_M_oneOf_74 rfl ?_
    exact ⟨rfl, rfl, rfl, rfl⟩
  · refine lf_iload_n d_M_oneOf_0 rfl rfl ?_
    refine lf_lookup (off := 74) (tgt := 75) d_M_oneOf_1 (by decide) (by decide) (by decide) ?_
    refine lf_lload_n d_M_oneOf_75 rfl rfl ?_
    refine lf_lload d_M_oneOf_76 rfl ?_
    refine lf_land d_M_oneOf_78 ?_
    refine gw_lret d_M_oneOf_79 rfl ?_
    exact ⟨rfl, rfl, rfl, rfl⟩
  · refine lf_iload_n d_M_oneOf_0 rfl rfl ?_
    refine lf_lookup (off := 79) (tgt := 80) d_M_oneOf_1 (by decide) (by decide) (by decide) ?_
    refine lf_lload_n d_M_oneOf_80 rfl rfl ?_
    refine lf_lload d_M_oneOf_81 rfl ?_
    refine lf_land d_M_oneOf_83 ?_
    refine lf_lload_n d_M_oneOf_84 rfl rfl ?_
    refine lf_lload d_M_oneOf_85 rfl ?_
    refine lf_land d_M_oneOf_87 ?_
    refine lf_lor d_M_oneOf_88 ?_
    refine gw_lret d_M_oneOf_89 rfl ?_
    exact ⟨rfl, rfl, rfl, rfl⟩
  · refine lf_iload_n d_M_oneOf_0 rfl rfl ?_
    refine lf_lookup (off := 89) (tgt := 90) d_M_oneOf_1 (by decide) (by decide) (by decide) ?_
    refine lf_lload_n d_M_oneOf_90 rfl rfl ?_
    refine gw_lret d_M_oneOf_91 rfl ?_
    exact ⟨rfl, rfl, rfl, rfl⟩
  · refine lf_iload_n d_M_oneOf_0 rfl rfl ?_
    refine lf_lookup (off := 91) (tgt := 92) d_M_oneOf_1 (by decide) (by decide) (by decide) ?_
    refine lf_lload_n d_M_oneOf_92 rfl rfl ?_
    refine gw_lret d_M_oneOf_93 rfl ?_
    exact ⟨rfl, rfl, rfl, rfl⟩
theorem m_zeroOf (hx : HX X L9 xs) {kd : Int} {oa za ob zb : Int64} (hk : kd = 97 ∨ kd = 110 ∨ kd = 111 ∨ kd = 114 ∨ kd = 120 ∨ kd = 118 ∨ kd = 98) : EVp TT cl6 X mi_M_zeroOf 0 [.int (Int32.ofInt (kd)), .long oa, .long za, .long ob, .long zb] sh I J (.long (gZero kd oa za ob zb)) := by
  refine gw_enter (hx_ok hx) (by decide +kernel) (Nat.le_of_ble_eq_true rfl) (L := [(0, _), (1, _), (3, _), (5, _), (7, _)]) rfl ?_
  rcases hk with rfl | rfl | rfl | rfl | rfl | rfl | rfl
  · refine lf_iload_n d_M_zeroOf_0 rfl rfl ?_
    refine lf_lookup (off := 59) (tgt := 60) d_M_zeroOf_1 (by decide) (by decide) (by decide) ?_
    refine lf_lload_n d_M_zeroOf_60 rfl rfl ?_
    refine lf_lload d_M_zeroOf_61 rfl ?_
    refine lf_lor d_M_zeroOf_63 ?_
    refine gw_lret d_M_zeroOf_64 rfl ?_
    exact ⟨rfl, rfl, rfl, rfl⟩
  · refine lf_iload_n d_M_zeroOf_0 rfl rfl ?_
    refine lf_lookup (off := 64) (tgt := 65) d_M_zeroOf_1 (by decide) (by decide) (by decide) ?_
    refine lf_lload_n d_M_zeroOf_65 rfl rfl ?_
    refine lf_lload d_M_zeroOf_66 rfl ?_
    refine lf_land d_M_zeroOf_68 ?_
    refine gw_lret d_M_zeroOf_69 rfl ?_
    exact ⟨rfl, rfl, rfl, rfl⟩
  · refine lf_iload_n d_M_zeroOf_0 rfl rfl ?_
    refine lf_lookup (off := 69) (tgt := 70) d_M_zeroOf_1 (by decide) (by decide) (by decide) ?_
    refine lf_lload_n d_M_zeroOf_70 rfl rfl ?_
    refine lf_lload d_M_zeroOf_71 rfl ?_
    refine lf_land d_M_zeroOf_73 ?_
    refine gw_lret d_M_zeroOf_74 rfl ?_
    exact ⟨rfl, rfl, rfl, rfl⟩
  · refine lf_iload_n d_M_zeroOf_0 rfl rfl ?_
    refine lf_lookup (off := 74) (tgt := 75) d_M_zeroOf_1 (by decide) (by decide) (by decide) ?_
    refine lf_lload_n d_M_zeroOf_75 rfl rfl ?_
    refine lf_lload d_M_zeroOf_76 rfl ?_
    refine lf_lor d_M_zeroOf_78 ?_
    refine gw_lret d_M_zeroOf_79 rfl ?_
    exact ⟨rfl, rfl, rfl, rfl⟩
  · refine lf_iload_n d_M_zeroOf_0 rfl rfl ?_
    refine lf_lookup (off := 79) (tgt := 80) d_M_zeroOf_1 (by decide) (by decide) (by decide) ?_
    refine lf_lload_n d_M_zeroOf_80 rfl rfl ?_
    refine lf_lload d_M_zeroOf_81 rfl ?_
    refine lf_land d_M_zeroOf_83 ?_
    refine lf_lload_n d_M_zeroOf_84 rfl rfl ?_
    refine lf_lload d_M_zeroOf_85 rfl ?_
    refine lf_land d_M_zeroOf_87 ?_
    refine lf_lor d_M_zeroOf_88 ?_
    refine gw_lret d_M_zeroOf_89 rfl ?_
    exact ⟨rfl, rfl, rfl, rfl⟩
  · refine lf_iload_n d_M_zeroOf_0 rfl rfl ?_
    refine lf_lookup (off := 89) (tgt := 90) d_M_zeroOf_1 (by decide) (by decide) (by decide) ?_
    refine lf_lload_n d_M_zeroOf_90 rfl rfl ?_
    refine gw_lret d_M_zeroOf_91 rfl ?_
    exact ⟨rfl, rfl, rfl, rfl⟩
  · refine lf_iload_n d_M_zeroOf_0 rfl rfl ?_
    refine lf_lookup (off := 91) (tgt := 92) d_M_zeroOf_1 (by decide) (by decide) (by decide) ?_
    refine lf_lload_n d_M_zeroOf_92 rfl rfl ?_
    refine gw_lret d_M_zeroOf_93 rfl ?_
    exact ⟨rfl, rfl, rfl, rfl⟩
theorem v_heldWord (hx : HX X L9 xs) {n w : Nat} (hV : clV sh n w) (hn2 : n ≤ 80) (hw2 : w ≤ 2) (hw : I 15 2 = w) {k u : Nat} (hk : k < n) (hu : u < w) : EVp TT cl6 X mi_V_heldWord 1 [.ref 15, .int (Int32.ofInt ((k : Nat) : Int)), .int (Int32.ofInt ((u : Nat) : Int))] sh I J (.long (J 26 (k * w + u))) := by
  refine gw_enter (hx_ok hx) (by decide +kernel) (Nat.le_of_ble_eq_true rfl) (L := [(0, _), (1, _), (2, _)]) rfl ?_
  refine lf_aload_n d_V_heldWord_0 rfl rfl rfl ?_
  refine gi_getr s_V_heldWord_1 (c_15 hV) rfl ?_
  refine lf_iload_n d_V_heldWord_4 rfl rfl ?_
  refine lf_aload_n d_V_heldWord_5 rfl rfl rfl ?_
  refine gi_geti s_V_heldWord_6 (c_15 hV) rfl ?_
  refine gi_top hw ?_
  refine gi_imulN (a := k) (b := w) d_V_heldWord_9 ?_
  refine lf_iload_n d_V_heldWord_10 rfl rfl ?_
  refine gi_iaddN (a := (k * w)) (b := u) d_V_heldWord_11 ?_
  refine gw_callP s_V_heldWord_12 (m_wordAtN hx (c_26 hV) ⟨kw_lt (by omega) (by omega), nw_le hn2 (by omega)⟩) (S := []) rfl rfl gcR_4 (by decide) (by decide +kernel) (Nat.le_of_ble_eq_true rfl) ?_
  refine gw_lret d_V_heldWord_15 rfl ?_
  exact ⟨rfl, rfl, rfl, rfl⟩
theorem v_keptWord (hx : HX X L9 xs) {n w : Nat} (hV : clV sh n w) (hw2 : w ≤ 2) {u : Nat} (hu : u < w) : EVp TT cl6 X mi_V_keptWord 1 [.ref 15, .int (Int32.ofInt ((u : Nat) : Int))] sh I J (.long (J 29 u)) := by
  refine gw_enter (hx_ok hx) (by decide +kernel) (Nat.le_of_ble_eq_true rfl) (L := [(0, _), (1, _)]) rfl ?_
  refine lf_aload_n d_V_keptWord_0 rfl rfl rfl ?_
  refine gi_getr s_V_keptWord_1 (c_15 hV) rfl ?_
  refine lf_iload_n d_V_keptWord_4 rfl rfl ?_
  refine gw_callP s_V_keptWord_5 (m_wordAtN hx (c_29 hV) (by omega)) (S := []) rfl rfl gcR_4 (by decide) (by decide +kernel) (Nat.le_of_ble_eq_true rfl) ?_
  refine gw_lret d_V_keptWord_8 rfl ?_
  exact ⟨rfl, rfl, rfl, rfl⟩
theorem v_leafWord0 (hx : HX X L9 xs) {n w : Nat} (hV : clV sh n w) (hn2 : n ≤ 80) (hw2 : w ≤ 2) (hw : I 15 2 = w) {a b u : Nat} (ha : a < n) (hb : b < n) (hu : u < w) : EVp TT cl6 X mi_V_leafWord 1 [.ref 15, .int (Int32.ofInt ((a : Nat) : Int)), .int (Int32.ofInt ((b : Nat) : Int)), .int (Int32.ofInt ((0 : Nat) : Int)), .int (Int32.ofInt ((u : Nat) : Int))] sh I J (.long (J 28 (a * w + u) &&& J 28 (b * w + u) ||| J 27 (a * w + u) &&& J 27 (b * w + u) ||| J 30 u)) := by
  refine gw_enter (hx_ok hx) (by decide +kernel) (Nat.le_of_ble_eq_true rfl) (L := [(0, _), (1, _), (2, _), (3, _), (4, _)]) rfl ?_
  refine lf_iload_n d_V_leafWord_0 rfl rfl ?_
  refine lf_aload_n d_V_leafWord_1 rfl rfl rfl ?_
  refine gi_geti s_V_leafWord_2 (c_15 hV) rfl ?_
  refine gi_top hw ?_
  refine gi_imulN (a := a) (b := w) d_V_leafWord_5 ?_
  refine lf_iload d_V_leafWord_6 rfl ?_
  refine gi_iaddN (a := (a * w)) (b := u) d_V_leafWord_8 ?_
  refine lf_istore d_V_leafWord_9 (by decide +kernel) (L2 := [(5, _), (0, _), (1, _), (2, _), (3, _), (4, _)]) rfl ?_
  refine lf_iload_n d_V_leafWord_11 rfl rfl ?_
  refine lf_aload_n d_V_leafWord_12 rfl rfl rfl ?_
  refine gi_geti s_V_leafWord_13 (c_15 hV) rfl ?_
  refine gi_top hw ?_
  refine gi_imulN (a := b) (b := w) d_V_leafWord_16 ?_
  refine lf_iload d_V_leafWord_17 rfl ?_
  refine gi_iaddN (a := (b * w)) (b := u) d_V_leafWord_19 ?_
  refine lf_istore d_V_leafWord_20 (by decide +kernel) (L2 := [(6, _), (5, _), (0, _), (1, _), (2, _), (3, _), (4, _)]) rfl ?_
  refine lf_iload_n d_V_leafWord_22 rfl rfl ?_
  refine gi_if_eq d_V_leafWord_23 (tgt := 38) (by decide) (by omega) (fun hb23 => ?_) (fun hb23 => False.elim (by omega))
  refine lf_aload_n d_V_leafWord_38 rfl rfl rfl ?_
  refine gi_getr s_V_leafWord_39 (c_15 hV) rfl ?_
  refine lf_iload d_V_leafWord_42 rfl ?_
  refine gw_callP s_V_leafWord_44 (m_wordAtN hx (c_28 hV) ⟨kw_lt (by omega) (by omega), nw_le hn2 (by omega)⟩) (S := []) rfl rfl gcR_4 (by decide) (by decide +kernel) (Nat.le_of_ble_eq_true rfl) ?_
  refine lf_lstore d_V_leafWord_47 (by decide +kernel) (L2 := [(7, _), (6, _), (5, _), (0, _), (1, _), (2, _), (3, _), (4, _)]) rfl ?_
  refine lf_iload_n d_V_leafWord_49 rfl rfl ?_
  refine gi_if_eq d_V_leafWord_50 (tgt := 65) (by decide) (by omega) (fun hb50 => ?_) (fun hb50 => False.elim (by omega))
  refine lf_aload_n d_V_leafWord_65 rfl rfl rfl ?_
  refine gi_getr s_V_leafWord_66 (c_15 hV) rfl ?_
  refine lf_iload d_V_leafWord_69 rfl ?_
  refine gw_callP s_V_leafWord_71 (m_wordAtN hx (c_27 hV) ⟨kw_lt (by omega) (by omega), nw_le hn2 (by omega)⟩) (S := []) rfl rfl gcR_4 (by decide) (by decide +kernel) (Nat.le_of_ble_eq_true rfl) ?_
  refine lf_lstore d_V_leafWord_74 (by decide +kernel) (L2 := [(9, _), (7, _), (6, _), (5, _), (0, _), (1, _), (2, _), (3, _), (4, _)]) rfl ?_
  refine lf_aload_n d_V_leafWord_76 rfl rfl rfl ?_
  refine gi_getr s_V_leafWord_77 (c_15 hV) rfl ?_
  refine lf_iload d_V_leafWord_80 rfl ?_
  refine gw_callP s_V_leafWord_82 (m_wordAtN hx (c_28 hV) ⟨kw_lt (by omega) (by omega), nw_le hn2 (by omega)⟩) (S := []) rfl rfl gcR_4 (by decide) (by decide +kernel) (Nat.le_of_ble_eq_true rfl) ?_
  refine lf_lload d_V_leafWord_85 rfl ?_
  refine lf_land d_V_leafWord_87 ?_
  refine lf_aload_n d_V_leafWord_88 rfl rfl rfl ?_
  refine gi_getr s_V_leafWord_89 (c_15 hV) rfl ?_
  refine lf_iload d_V_leafWord_92 rfl ?_
  refine gw_callP s_V_leafWord_94 (m_wordAtN hx (c_27 hV) ⟨kw_lt (by omega) (by omega), nw_le hn2 (by omega)⟩) (S := [_]) rfl rfl gcR_4 (by decide) (by decide +kernel) (Nat.le_of_ble_eq_true rfl) ?_
  refine lf_lload d_V_leafWord_97 rfl ?_
  refine lf_land d_V_leafWord_99 ?_
  refine lf_lor d_V_leafWord_100 ?_
  refine lf_aload_n d_V_leafWord_101 rfl rfl rfl ?_
  refine gi_getr s_V_leafWord_102 (c_15 hV) rfl ?_
  refine lf_iload d_V_leafWord_105 rfl ?_
  refine gw_callP s_V_leafWord_107 (m_wordAtN hx (c_30 hV) (by omega)) (S := [_]) rfl rfl gcR_4 (by decide) (by decide +kernel) (Nat.le_of_ble_eq_true rfl) ?_
  refine lf_lor d_V_leafWord_110 ?_
  refine gw_lret d_V_leafWord_111 rfl ?_
  exact ⟨rfl, rfl, rfl, rfl⟩
theorem v_leafWord1 (hx : HX X L9 xs) {n w : Nat} (hV : clV sh n w) (hn2 : n ≤ 80) (hw2 : w ≤ 2) (hw : I 15 2 = w) {a b u : Nat} (ha : a < n) (hb : b < n) (hu : u < w) : EVp TT cl6 X mi_V_leafWord 1 [.ref 15, .int (Int32.ofInt ((a : Nat) : Int)), .int (Int32.ofInt ((b : Nat) : Int)), .int (Int32.ofInt ((1 : Nat) : Int)), .int (Int32.ofInt ((u : Nat) : Int))] sh I J (.long (J 28 (a * w + u) &&& J 27 (b * w + u) ||| J 27 (a * w + u) &&& J 28 (b * w + u) ||| J 30 u)) := by
  refine gw_enter (hx_ok hx) (by decide +kernel) (Nat.le_of_ble_eq_true rfl) (L := [(0, _), (1, _), (2, _), (3, _), (4, _)]) rfl ?_
  refine lf_iload_n d_V_leafWord_0 rfl rfl ?_
  refine lf_aload_n d_V_leafWord_1 rfl rfl rfl ?_
  refine gi_geti s_V_leafWord_2 (c_15 hV) rfl ?_
  refine gi_top hw ?_
  refine gi_imulN (a := a) (b := w) d_V_leafWord_5 ?_
  refine lf_iload d_V_leafWord_6 rfl ?_
  refine gi_iaddN (a := (a * w)) (b := u) d_V_leafWord_8 ?_
  refine lf_istore d_V_leafWord_9 (by decide +kernel) (L2 := [(5, _), (0, _), (1, _), (2, _), (3, _), (4, _)]) rfl ?_
  refine lf_iload_n d_V_leafWord_11 rfl rfl ?_
  refine lf_aload_n d_V_leafWord_12 rfl rfl rfl ?_
  refine gi_geti s_V_leafWord_13 (c_15 hV) rfl ?_
  refine gi_top hw ?_
  refine gi_imulN (a := b) (b := w) d_V_leafWord_16 ?_
  refine lf_iload d_V_leafWord_17 rfl ?_
  refine gi_iaddN (a := (b * w)) (b := u) d_V_leafWord_19 ?_
  refine lf_istore d_V_leafWord_20 (by decide +kernel) (L2 := [(6, _), (5, _), (0, _), (1, _), (2, _), (3, _), (4, _)]) rfl ?_
  refine lf_iload_n d_V_leafWord_22 rfl rfl ?_
  refine gi_if_eq d_V_leafWord_23 (tgt := 38) (by decide) (by omega) (fun hb23 => False.elim (by omega)) (fun hb23 => ?_)
  refine lf_aload_n d_V_leafWord_26 rfl rfl rfl ?_
  refine gi_getr s_V_leafWord_27 (c_15 hV) rfl ?_
  refine lf_iload d_V_leafWord_30 rfl ?_
  refine gw_callP s_V_leafWord_32 (m_wordAtN hx (c_27 hV) ⟨kw_lt (by omega) (by omega), nw_le hn2 (by omega)⟩) (S := []) rfl rfl gcR_4 (by decide) (by decide +kernel) (Nat.le_of_ble_eq_true rfl) ?_
  refine lf_goto d_V_leafWord_35 (tgt := 47) (by decide) ?_
  refine lf_lstore d_V_leafWord_47 (by decide +kernel) (L2 := [(7, _), (6, _), (5, _), (0, _), (1, _), (2, _), (3, _), (4, _)]) rfl ?_
  refine lf_iload_n d_V_leafWord_49 rfl rfl ?_
  refine gi_if_eq d_V_leafWord_50 (tgt := 65) (by decide) (by omega) (fun hb50 => False.elim (by omega)) (fun hb50 => ?_)
  refine lf_aload_n d_V_leafWord_53 rfl rfl rfl ?_
  refine gi_getr s_V_leafWord_54 (c_15 hV) rfl ?_
  refine lf_iload d_V_leafWord_57 rfl ?_
  refine gw_callP s_V_leafWord_59 (m_wordAtN hx (c_28 hV) ⟨kw_lt (by omega) (by omega), nw_le hn2 (by omega)⟩) (S := []) rfl rfl gcR_4 (by decide) (by decide +kernel) (Nat.le_of_ble_eq_true rfl) ?_
  refine lf_goto d_V_leafWord_62 (tgt := 74) (by decide) ?_
  refine lf_lstore d_V_leafWord_74 (by decide +kernel) (L2 := [(9, _), (7, _), (6, _), (5, _), (0, _), (1, _), (2, _), (3, _), (4, _)]) rfl ?_
  refine lf_aload_n d_V_leafWord_76 rfl rfl rfl ?_
  refine gi_getr s_V_leafWord_77 (c_15 hV) rfl ?_
  refine lf_iload d_V_leafWord_80 rfl ?_
  refine gw_callP s_V_leafWord_82 (m_wordAtN hx (c_28 hV) ⟨kw_lt (by omega) (by omega), nw_le hn2 (by omega)⟩) (S := []) rfl rfl gcR_4 (by decide) (by decide +kernel) (Nat.le_of_ble_eq_true rfl) ?_
  refine lf_lload d_V_leafWord_85 rfl ?_
  refine lf_land d_V_leafWord_87 ?_
  refine lf_aload_n d_V_leafWord_88 rfl rfl rfl ?_
  refine gi_getr s_V_leafWord_89 (c_15 hV) rfl ?_
  refine lf_iload d_V_leafWord_92 rfl ?_
  refine gw_callP s_V_leafWord_94 (m_wordAtN hx (c_27 hV) ⟨kw_lt (by omega) (by omega), nw_le hn2 (by omega)⟩) (S := [_]) rfl rfl gcR_4 (by decide) (by decide +kernel) (Nat.le_of_ble_eq_true rfl) ?_
  refine lf_lload d_V_leafWord_97 rfl ?_
  refine lf_land d_V_leafWord_99 ?_
  refine lf_lor d_V_leafWord_100 ?_
  refine lf_aload_n d_V_leafWord_101 rfl rfl rfl ?_
  refine gi_getr s_V_leafWord_102 (c_15 hV) rfl ?_
  refine lf_iload d_V_leafWord_105 rfl ?_
  refine gw_callP s_V_leafWord_107 (m_wordAtN hx (c_30 hV) (by omega)) (S := [_]) rfl rfl gcR_4 (by decide) (by decide +kernel) (Nat.le_of_ble_eq_true rfl) ?_
  refine lf_lor d_V_leafWord_110 ?_
  refine gw_lret d_V_leafWord_111 rfl ?_
  exact ⟨rfl, rfl, rfl, rfl⟩
/-- the bits of a number of s bits the other way round -/
def mir (s c : Nat) : Nat :=
  let a := c &&& 65535
  let b := (a &&& 21845) * 2 ^ 1 ||| (a / 2 ^ 1 &&& 21845)
  let d := (b &&& 13107) * 2 ^ 2 ||| (b / 2 ^ 2 &&& 13107)
  let e := (d &&& 3855) * 2 ^ 4 ||| (d / 2 ^ 4 &&& 3855)
  let f := (e &&& 255) * 2 ^ 8 ||| (e / 2 ^ 8 &&& 255)
  f / 2 ^ (16 - s)
theorem and_le2 {a b m : Nat} (h : b ≤ m) : a &&& b ≤ m := Nat.le_trans Nat.and_le_right h
theorem or_lt2 {a b k : Nat} (ha : a < 2 ^ k) (hb : b < 2 ^ k) : a ||| b < 2 ^ k := Nat.or_lt_two_pow ha hb
theorem oi_ushr {a s : Nat} (ha : a < 2147483648) (hs : s < 32) : ((Int32.ofInt (a : Int)).toUInt32 >>> ((Int32.ofInt (s : Int)).toUInt32 &&& Int32.toUInt32 31)).toInt32 = Int32.ofInt ((a / 2 ^ s : Nat) : Int) := by
  rw [oi_nat, oi_nat, oi_nat]
  apply Int32.toBitVec_inj.mp
  show (((Int32.ofNat a).toUInt32 >>> ((Int32.ofNat s).toUInt32 &&& Int32.toUInt32 31))).toBitVec = BitVec.ofNat 32 (a / 2 ^ s)
  rw [UInt32.toBitVec_shiftRight]
  show (BitVec.ofNat 32 a) >>> (((Int32.ofNat s).toUInt32 &&& Int32.toUInt32 31).toBitVec % 32).toNat = BitVec.ofNat 32 (a / 2 ^ s)
  have e : ∀ s, s < 32 → (((Int32.ofNat s).toUInt32 &&& Int32.toUInt32 31).toBitVec % 32).toNat = s := by decide +kernel
  rw [e s hs]
  apply BitVec.eq_of_toNat_eq
  have hle : a / 2 ^ s ≤ a := Nat.div_le_self _ _
  rw [BitVec.toNat_ushiftRight, BitVec.toNat_ofNat, BitVec.toNat_ofNat, Nat.shiftRight_eq_div_pow, Nat.mod_eq_of_lt (a := a) (by omega), Nat.mod_eq_of_lt (by omega)]
theorem gi_iushrN {TT : List Cond} {cl : List vw_C} {X : XT} {mi : MI} {fr lo pc : Nat} {L : List (Nat × Value)} {S : List Value} {h : mF} {a s : Nat} (d : decode mi.2.1 pc = .ok (.iushr, 1)) (ha : a < 2147483648) (hs : s < 32) (k : LXf TT cl X mi fr lo D P PX kc ks (pc + 1) L (.int (Int32.ofInt ((a / 2 ^ s : Nat) : Int)) :: S) h) : LXf TT cl X mi fr lo D P PX kc ks pc L (.int (Int32.ofInt (s : Int)) :: .int (Int32.ofInt (a : Int)) :: S) h := by
  refine lf_iushr d ?_
  rw [oi_ushr ha hs]
  exact k
theorem v_mirrored (hx : HX X L9 xs) {n w : Nat} (hV : clV sh n w) {s c : Nat} (hs : I 15 1 = s) (hs2 : s ≤ 14) : EVp TT cl6 X mi_V_mirrored 1 [.ref 15, .int (Int32.ofInt ((c : Nat) : Int))] sh I J (.int (Int32.ofInt ((mir s c : Nat) : Int))) := by
  refine gw_enter (hx_ok hx) (by decide +kernel) (Nat.le_of_ble_eq_true rfl) (L := [(0, _), (1, _)]) rfl ?_
  refine lf_iload_n d_V_mirrored_0 rfl rfl ?_
  refine gi_pushi s_V_mirrored_1 ?_
  refine gi_top (b := ((65535 : Nat) : Int)) rfl ?_
  refine gi_iandN (a := c) (b := 65535) d_V_mirrored_3 ?_
  refine lf_istore_n d_V_mirrored_4 rfl (by decide +kernel) (L2 := [(2, _), (0, _), (1, _)]) rfl ?_
  skip
  obtain ⟨a, ha⟩ : ∃ a, a = c &&& 65535 := ⟨_, rfl⟩
  rw [← ha]
  have ha2 : a < 65536 := by rw [ha]; exact Nat.lt_of_le_of_lt Nat.and_le_right (by decide)
  refine lf_iload_n d_V_mirrored_5 rfl rfl ?_
  refine lf_sipush d_V_mirrored_6 (v := Int32.ofInt ((21845 : Nat) : Int)) (by decide +kernel) ?_
  refine gi_iandN (a := a) (b := 21845) d_V_mirrored_9 ?_
  refine lf_iconst d_V_mirrored_10 (v := Int32.ofInt ((1 : Nat) : Int)) rfl ?_
  refine gi_ishlN (a := (a &&& 21845)) (s := 1) d_V_mirrored_11 (by omega) ?_
  refine lf_iload_n d_V_mirrored_12 rfl rfl ?_
  refine lf_iconst d_V_mirrored_13 (v := Int32.ofInt ((1 : Nat) : Int)) rfl ?_
  refine gi_iushrN (a := a) (s := 1) d_V_mirrored_14 (by omega) (by omega) ?_
  refine lf_sipush d_V_mirrored_15 (v := Int32.ofInt ((21845 : Nat) : Int)) (by decide +kernel) ?_
  refine gi_iandN (a := (a / 2 ^ 1)) (b := 21845) d_V_mirrored_18 ?_
  refine gi_iorN (a := ((a &&& 21845) * 2 ^ 1)) (b := ((a / 2 ^ 1) &&& 21845)) d_V_mirrored_19 ?_
  refine lf_istore_n d_V_mirrored_20 rfl (by decide +kernel) (L2 := [(2, _), (0, _), (1, _)]) rfl ?_
  skip
  obtain ⟨b, hb⟩ : ∃ b, b = (a &&& 21845) * 2 ^ 1 ||| (a / 2 ^ 1 &&& 21845) := ⟨_, rfl⟩
  rw [← hb]
  have hb2 : b < 65536 := by rw [hb]; exact or_lt2 (k := 16) (by have := and_le2 (a := a) (b := 21845) (m := 21845) (Nat.le_refl _); omega) (Nat.lt_of_le_of_lt Nat.and_le_right (by decide))
  refine lf_iload_n d_V_mirrored_21 rfl rfl ?_
  refine lf_sipush d_V_mirrored_22 (v := Int32.ofInt ((13107 : Nat) : Int)) (by decide +kernel) ?_
  refine gi_iandN (a := b) (b := 13107) d_V_mirrored_25 ?_
  refine lf_iconst d_V_mirrored_26 (v := Int32.ofInt ((2 : Nat) : Int)) rfl ?_
  refine gi_ishlN (a := (b &&& 13107)) (s := 2) d_V_mirrored_27 (by omega) ?_
  refine lf_iload_n d_V_mirrored_28 rfl rfl ?_
  refine lf_iconst d_V_mirrored_29 (v := Int32.ofInt ((2 : Nat) : Int)) rfl ?_
  refine gi_iushrN (a := b) (s := 2) d_V_mirrored_30 (by omega) (by omega) ?_
  refine lf_sipush d_V_mirrored_31 (v := Int32.ofInt ((13107 : Nat) : Int)) (by decide +kernel) ?_
  refine gi_iandN (a := (b / 2 ^ 2)) (b := 13107) d_V_mirrored_34 ?_
  refine gi_iorN (a := ((b &&& 13107) * 2 ^ 2)) (b := ((b / 2 ^ 2) &&& 13107)) d_V_mirrored_35 ?_
  refine lf_istore_n d_V_mirrored_36 rfl (by decide +kernel) (L2 := [(2, _), (0, _), (1, _)]) rfl ?_
  skip
  obtain ⟨d, hd⟩ : ∃ d, d = (b &&& 13107) * 2 ^ 2 ||| (b / 2 ^ 2 &&& 13107) := ⟨_, rfl⟩
  rw [← hd]
  have hd2 : d < 65536 := by rw [hd]; exact or_lt2 (k := 16) (by have := and_le2 (a := b) (b := 13107) (m := 13107) (Nat.le_refl _); omega) (Nat.lt_of_le_of_lt Nat.and_le_right (by decide))
  refine lf_iload_n d_V_mirrored_37 rfl rfl ?_
  refine lf_sipush d_V_mirrored_38 (v := Int32.ofInt ((3855 : Nat) : Int)) (by decide +kernel) ?_
  refine gi_iandN (a := d) (b := 3855) d_V_mirrored_41 ?_
  refine lf_iconst d_V_mirrored_42 (v := Int32.ofInt ((4 : Nat) : Int)) rfl ?_
  refine gi_ishlN (a := (d &&& 3855)) (s := 4) d_V_mirrored_43 (by omega) ?_
  refine lf_iload_n d_V_mirrored_44 rfl rfl ?_
  refine lf_iconst d_V_mirrored_45 (v := Int32.ofInt ((4 : Nat) : Int)) rfl ?_
  refine gi_iushrN (a := d) (s := 4) d_V_mirrored_46 (by omega) (by omega) ?_
  refine lf_sipush d_V_mirrored_47 (v := Int32.ofInt ((3855 : Nat) : Int)) (by decide +kernel) ?_
  refine gi_iandN (a := (d / 2 ^ 4)) (b := 3855) d_V_mirrored_50 ?_
  refine gi_iorN (a := ((d &&& 3855) * 2 ^ 4)) (b := ((d / 2 ^ 4) &&& 3855)) d_V_mirrored_51 ?_
  refine lf_istore_n d_V_mirrored_52 rfl (by decide +kernel) (L2 := [(2, _), (0, _), (1, _)]) rfl ?_
  skip
  obtain ⟨e, he⟩ : ∃ e, e = (d &&& 3855) * 2 ^ 4 ||| (d / 2 ^ 4 &&& 3855) := ⟨_, rfl⟩
  rw [← he]
  have he2 : e < 65536 := by rw [he]; exact or_lt2 (k := 16) (by have := and_le2 (a := d) (b := 3855) (m := 3855) (Nat.le_refl _); omega) (Nat.lt_of_le_of_lt Nat.and_le_right (by decide))
  refine lf_iload_n d_V_mirrored_53 rfl rfl ?_
  refine lf_sipush d_V_mirrored_54 (v := Int32.ofInt ((255 : Nat) : Int)) (by decide +kernel) ?_
  refine gi_iandN (a := e) (b := 255) d_V_mirrored_57 ?_
  refine lf_bipush d_V_mirrored_58 (v := Int32.ofInt ((8 : Nat) : Int)) (by decide +kernel) ?_
  refine gi_ishlN (a := (e &&& 255)) (s := 8) d_V_mirrored_60 (by omega) ?_
  refine lf_iload_n d_V_mirrored_61 rfl rfl ?_
  refine lf_bipush d_V_mirrored_62 (v := Int32.ofInt ((8 : Nat) : Int)) (by decide +kernel) ?_
  refine gi_iushrN (a := e) (s := 8) d_V_mirrored_64 (by omega) (by omega) ?_
  refine lf_sipush d_V_mirrored_65 (v := Int32.ofInt ((255 : Nat) : Int)) (by decide +kernel) ?_
  refine gi_iandN (a := (e / 2 ^ 8)) (b := 255) d_V_mirrored_68 ?_
  refine gi_iorN (a := ((e &&& 255) * 2 ^ 8)) (b := ((e / 2 ^ 8) &&& 255)) d_V_mirrored_69 ?_
  refine lf_istore_n d_V_mirrored_70 rfl (by decide +kernel) (L2 := [(2, _), (0, _), (1, _)]) rfl ?_
  skip
  obtain ⟨f, hf⟩ : ∃ f, f = (e &&& 255) * 2 ^ 8 ||| (e / 2 ^ 8 &&& 255) := ⟨_, rfl⟩
  rw [← hf]
  have hf2 : f < 65536 := by rw [hf]; exact or_lt2 (k := 16) (by have := and_le2 (a := e) (b := 255) (m := 255) (Nat.le_refl _); omega) (Nat.lt_of_le_of_lt Nat.and_le_right (by decide))
  refine lf_iload_n d_V_mirrored_71 rfl rfl ?_
  refine lf_bipush d_V_mirrored_72 (v := Int32.ofInt ((16 : Nat) : Int)) (by decide +kernel) ?_
  refine lf_aload_n d_V_mirrored_74 rfl rfl rfl ?_
  refine gi_geti s_V_mirrored_75 (c_15 hV) rfl ?_
  refine gi_top hs ?_
  refine gi_isubN (a := 16) (b := s) d_V_mirrored_78 (by omega) ?_
  refine gi_iushrN (a := f) (s := (16 - s)) d_V_mirrored_79 (by omega) (by omega) ?_
  refine gw_iret d_V_mirrored_80 rfl ?_
  exact ⟨rfl, by subst hf he hd hb ha; rfl, rfl, rfl⟩
theorem mir_lt {s c : Nat} (hs : s ≤ 16) : mir s c < 2 ^ s := by
  unfold mir
  dsimp only
  obtain ⟨f, hf⟩ : ∃ f, f = (((((c &&& 65535) &&& 21845) * 2 ^ 1 ||| (c &&& 65535) / 2 ^ 1 &&& 21845) &&& 13107) * 2 ^ 2 ||| (((c &&& 65535) &&& 21845) * 2 ^ 1 ||| (c &&& 65535) / 2 ^ 1 &&& 21845) / 2 ^ 2 &&& 13107) := ⟨_, rfl⟩
  rw [← hf]
  obtain ⟨g, hg⟩ : ∃ g, g = ((f &&& 3855) * 2 ^ 4 ||| f / 2 ^ 4 &&& 3855) := ⟨_, rfl⟩
  rw [← hg]
  have h1 : (g &&& 255) * 2 ^ 8 ||| g / 2 ^ 8 &&& 255 < 2 ^ 16 := or_lt2 (k := 16) (by have := and_le2 (a := g) (b := 255) (m := 255) (Nat.le_refl _); omega) (Nat.lt_of_le_of_lt Nat.and_le_right (by decide))
  rw [Nat.div_lt_iff_lt_mul (Nat.two_pow_pos _), ← Nat.pow_add, show s + (16 - s) = 16 by omega]
  exact h1
theorem div64 {s i w : Nat} (hi : i < 2 ^ s) (hw : (s ≤ 6 ∧ w = 1) ∨ (s = 7 ∧ w = 2)) : i / 2 ^ 6 < w := by
  rcases hw with ⟨h1, rfl⟩ | ⟨rfl, rfl⟩
  · have h2 : 2 ^ s ≤ 2 ^ 6 := Nat.pow_le_pow_right (by decide) h1
    omega
  · omega
theorem v_bitAtChoice (hx : HX X L9 xs) {n w : Nat} (hV : clV sh n w) {s : Nat} (hs : I 15 1 = s) (hsw : (s ≤ 6 ∧ w = 1) ∨ (s = 7 ∧ w = 2)) (hn2 : n ≤ 80) (hw : I 15 2 = w) {k c : Nat} (hk : k < n) : EVp TT cl6 X mi_V_bitAtChoice 2 [.ref 15, .int (Int32.ofInt ((k : Nat) : Int)), .int (Int32.ofInt ((c : Nat) : Int))] sh I J (.int (Int32.ofInt (if lb (J 26 (k * w + mir s c / 64)) (mir s c % 64) = true then 1 else 0))) := by
  have hs2 : s ≤ 14 := by omega
  have hm := mir_lt (s := s) (c := c) (by omega)
  have hp : 2 ^ s ≤ 16384 := Nat.pow_le_pow_right (n := 2) (by decide) hs2
  have hd := div64 hm hsw
  refine gw_enter (hx_ok hx) (by decide +kernel) (Nat.le_of_ble_eq_true rfl) (L := [(0, _), (1, _), (2, _)]) rfl ?_
  refine lf_aload_n d_V_bitAtChoice_0 rfl rfl rfl ?_
  refine lf_iload_n d_V_bitAtChoice_1 rfl rfl ?_
  refine gw_callP s_V_bitAtChoice_2 (v_mirrored hx hV hs hs2) (S := []) rfl rfl (gcR_2 (c_15 hV)) (by decide) (by decide +kernel) (Nat.le_of_ble_eq_true rfl) ?_
  refine lf_istore_n d_V_bitAtChoice_5 rfl (by decide +kernel) (L2 := [(3, _), (0, _), (1, _), (2, _)]) rfl ?_
  refine lf_aload_n d_V_bitAtChoice_6 rfl rfl rfl ?_
  refine gi_getr s_V_bitAtChoice_7 (c_15 hV) rfl ?_
  refine lf_iload_n d_V_bitAtChoice_10 rfl rfl ?_
  refine lf_aload_n d_V_bitAtChoice_11 rfl rfl rfl ?_
  refine gi_geti s_V_bitAtChoice_12 (c_15 hV) rfl ?_
  refine gi_top hw ?_
  refine gi_imulN (a := k) (b := w) d_V_bitAtChoice_15 ?_
  refine lf_iload_n d_V_bitAtChoice_16 rfl rfl ?_
  refine lf_bipush d_V_bitAtChoice_17 (v := Int32.ofInt ((6 : Nat) : Int)) (by decide +kernel) ?_
  refine gi_ishrN (a := (mir s c)) (s := 6) d_V_bitAtChoice_19 (by omega) (by omega) ?_
  refine gi_iaddN (a := (k * w)) (b := ((mir s c) / 2 ^ 6)) d_V_bitAtChoice_20 ?_
  refine gw_callP s_V_bitAtChoice_21 (m_wordAtN hx (c_26 hV) ⟨kw_lt hk hd, nw_le hn2 (by omega)⟩) (S := []) rfl rfl gcR_4 (by decide) (by decide +kernel) (Nat.le_of_ble_eq_true rfl) ?_
  refine lf_iload_n d_V_bitAtChoice_24 rfl rfl ?_
  refine lf_bipush d_V_bitAtChoice_25 (v := Int32.ofInt ((63 : Nat) : Int)) (by decide +kernel) ?_
  refine gi_iandN (a := (mir s c)) (b := 63) d_V_bitAtChoice_27 ?_
  refine gi_top (show ((mir s c &&& 63 : Nat) : Int) = ((mir s c % 64 : Nat) : Int) from by rw [show (63 : Nat) = 2 ^ 6 - 1 from rfl, Nat.and_two_pow_sub_one_eq_mod]) ?_
  refine lf_lushr d_V_bitAtChoice_28 ?_
  refine lf_l2i d_V_bitAtChoice_29 ?_
  refine lf_iconst d_V_bitAtChoice_30 (v := Int32.ofInt ((1 : Nat) : Int)) rfl ?_
  refine lf_iand d_V_bitAtChoice_31 ?_
  refine gi_topX (oi_bit (Nat.mod_lt _ (by decide))) ?_
  refine gw_iret d_V_bitAtChoice_32 rfl ?_
  exact ⟨rfl, rfl, rfl, rfl⟩
theorem v_isKept (hx : HX X L9 xs) {n w : Nat} (hV : clV sh n w) {s : Nat} (hs : I 15 1 = s) (hsw : (s ≤ 6 ∧ w = 1) ∨ (s = 7 ∧ w = 2)) {c : Nat} : EVp TT cl6 X mi_V_isKept 2 [.ref 15, .int (Int32.ofInt ((c : Nat) : Int))] sh I J (.int (Int32.ofInt (if lb (J 29 (mir s c / 64)) (mir s c % 64) = true then 1 else 0))) := by
  have hs2 : s ≤ 14 := by omega
  have hw2 : w ≤ 2 := by omega
  have hm := mir_lt (s := s) (c := c) (by omega)
  have hp : 2 ^ s ≤ 16384 := Nat.pow_le_pow_right (n := 2) (by decide) hs2
  have hd := div64 hm hsw
  refine gw_enter (hx_ok hx) (by decide +kernel) (Nat.le_of_ble_eq_true rfl) (L := [(0, _), (1, _)]) rfl ?_
  refine lf_aload_n d_V_isKept_0 rfl rfl rfl ?_
  refine lf_iload_n d_V_isKept_1 rfl rfl ?_
  refine gw_callP s_V_isKept_2 (v_mirrored hx hV hs hs2) (S := []) rfl rfl (gcR_2 (c_15 hV)) (by decide) (by decide +kernel) (Nat.le_of_ble_eq_true rfl) ?_
  refine lf_istore_n d_V_isKept_5 rfl (by decide +kernel) (L2 := [(2, _), (0, _), (1, _)]) rfl ?_
  refine lf_aload_n d_V_isKept_6 rfl rfl rfl ?_
  refine lf_iload_n d_V_isKept_7 rfl rfl ?_
  refine lf_bipush d_V_isKept_8 (v := Int32.ofInt ((6 : Nat) : Int)) (by decide +kernel) ?_
  refine gi_ishrN (a := (mir s c)) (s := 6) d_V_isKept_10 (by omega) (by omega) ?_
  refine gw_callP s_V_isKept_11 (v_keptWord hx hV hw2 hd) (S := []) rfl rfl (gcR_2 (c_15 hV)) (by decide) (by decide +kernel) (Nat.le_of_ble_eq_true rfl) ?_
  refine lf_iload_n d_V_isKept_14 rfl rfl ?_
  refine lf_bipush d_V_isKept_15 (v := Int32.ofInt ((63 : Nat) : Int)) (by decide +kernel) ?_
  refine gi_iandN (a := (mir s c)) (b := 63) d_V_isKept_17 ?_
  refine gi_top (show ((mir s c &&& 63 : Nat) : Int) = ((mir s c % 64 : Nat) : Int) from by rw [show (63 : Nat) = 2 ^ 6 - 1 from rfl, Nat.and_two_pow_sub_one_eq_mod]) ?_
  refine lf_lushr d_V_isKept_18 ?_
  refine lf_lconst d_V_isKept_19 rfl ?_
  refine lf_land d_V_isKept_20 ?_
  refine lf_lconst d_V_isKept_21 rfl ?_
  refine lf_lcmp d_V_isKept_22 ?_
  refine gi_topX (lg_bit (Nat.mod_lt _ (by decide))) ?_
  refine gb_if_eq d_V_isKept_23 (tgt := 30) (by decide) (fun hb23 => ?_) (fun hb23 => ?_)
  · refine lf_iconst d_V_isKept_30 (v := Int32.ofInt ((0 : Nat) : Int)) rfl ?_
    refine gw_zret d_V_isKept_31 rfl (by omega) ?_
    first
      | exact ⟨rfl, congrArg (fun z => some (Value.int (Int32.ofInt z))) (if_pos (by assumption)).symm, rfl, rfl⟩
      | exact ⟨rfl, congrArg (fun z => some (Value.int (Int32.ofInt z))) (if_neg (by assumption)).symm, rfl, rfl⟩
  · refine lf_iconst d_V_isKept_26 (v := Int32.ofInt ((1 : Nat) : Int)) rfl ?_
    refine lf_goto d_V_isKept_27 (tgt := 31) (by decide) ?_
    refine gw_zret d_V_isKept_31 rfl (by omega) ?_
    first
      | exact ⟨rfl, congrArg (fun z => some (Value.int (Int32.ofInt z))) (if_pos (by assumption)).symm, rfl, rfl⟩
      | exact ⟨rfl, congrArg (fun z => some (Value.int (Int32.ofInt z))) (if_neg (by assumption)).symm, rfl, rfl⟩
theorem v_areKeptInputs (hx : HX X L9 xs) {n w : Nat} (hV : clV sh n w) {c : Nat} (hc : c < 64) : EVp TT cl6 X mi_V_areKeptInputs 0 [.ref 15, .int (Int32.ofInt ((c : Nat) : Int))] sh I J (.int (Int32.ofInt (if lb (J 15 11) c = true then 1 else 0))) := by
  refine gw_enter (hx_ok hx) (by decide +kernel) (Nat.le_of_ble_eq_true rfl) (L := [(0, _), (1, _)]) rfl ?_
  refine lf_aload_n d_V_areKeptInputs_0 rfl rfl rfl ?_
  refine gi_getl s_V_areKeptInputs_1 (c_15 hV) rfl ?_
  refine lf_iload_n d_V_areKeptInputs_4 rfl rfl ?_
  refine lf_lushr d_V_areKeptInputs_5 ?_
  refine lf_lconst d_V_areKeptInputs_6 rfl ?_
  refine lf_land d_V_areKeptInputs_7 ?_
  refine lf_lconst d_V_areKeptInputs_8 rfl ?_
  refine lf_lcmp d_V_areKeptInputs_9 ?_
  refine gi_topX (lg_bit hc) ?_
  refine gb_if_eq d_V_areKeptInputs_10 (tgt := 17) (by decide) (fun hb10 => ?_) (fun hb10 => ?_)
  · refine lf_iconst d_V_areKeptInputs_17 (v := Int32.ofInt ((0 : Nat) : Int)) rfl ?_
    refine gw_zret d_V_areKeptInputs_18 rfl (by omega) ?_
    first
      | exact ⟨rfl, congrArg (fun z => some (Value.int (Int32.ofInt z))) (if_pos (by assumption)).symm, rfl, rfl⟩
      | exact ⟨rfl, congrArg (fun z => some (Value.int (Int32.ofInt z))) (if_neg (by assumption)).symm, rfl, rfl⟩
  · refine lf_iconst d_V_areKeptInputs_13 (v := Int32.ofInt ((1 : Nat) : Int)) rfl ?_
    refine lf_goto d_V_areKeptInputs_14 (tgt := 18) (by decide) ?_
    refine gw_zret d_V_areKeptInputs_18 rfl (by omega) ?_
    first
      | exact ⟨rfl, congrArg (fun z => some (Value.int (Int32.ofInt z))) (if_pos (by assumption)).symm, rfl, rfl⟩
      | exact ⟨rfl, congrArg (fun z => some (Value.int (Int32.ofInt z))) (if_neg (by assumption)).symm, rfl, rfl⟩
end VT1
