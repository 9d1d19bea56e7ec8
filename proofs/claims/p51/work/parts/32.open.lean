section MT1
variable {X : XT} {L9 : Nat} {xs : Nat → Int32} {sh : sM} {I : mI} {J : mJ}

theorem m_mustBeOpen (hx : HX X L9 xs)(hM : clM sh .null) : EVn TT cl6 X mi_M_mustBeOpen 0 [.ref 0] sh I J  := by
  refine gw_enter (hx_ok hx) (by decide +kernel) (Nat.le_of_ble_eq_true rfl) (L := [(0, _)]) rfl ?_
  refine lf_aload_n d_M_mustBeOpen_0 rfl rfl rfl ?_
  refine gi_getn s_M_mustBeOpen_1 (c_0 hM) rfl ?_
  refine lf_ifnull_n d_M_mustBeOpen_4 (tgt := 18) (by decide) ?_
  refine gw_ret d_M_mustBeOpen_18 rfl ?_
  exact ⟨rfl, rfl, rfl, rfl⟩
theorem m_mustBeOpen_t (hx : HX X L9 xs)(hM : clM sh (.ref 14)) : EVt TT cl6 X mi_M_mustBeOpen 0 [.ref 0] sh I J "java/lang/UnsupportedOperationException" := by
  refine gw_enter (hx_ok hx) (by decide +kernel) (Nat.le_of_ble_eq_true rfl) (L := [(0, _)]) rfl ?_
  refine lf_aload_n d_M_mustBeOpen_0 rfl rfl rfl ?_
  refine gi_getr s_M_mustBeOpen_1 (c_0 hM) rfl ?_
  refine lf_ifnull_r d_M_mustBeOpen_4 rfl ?_
  refine gw_thr (s_M_mustBeOpen_7 hx) (by decide) (Nat.le_of_ble_eq_true rfl) ?_
  exact ⟨_, _, _, rfl, rfl, rfl, rfl, rfl⟩
theorem m_mustBeClosed (hx : HX X L9 xs)(hM : clM sh (.ref 14)) : EVp TT cl6 X mi_M_mustBeClosed 0 [.ref 0] sh I J (.ref 14) := by
  refine gw_enter (hx_ok hx) (by decide +kernel) (Nat.le_of_ble_eq_true rfl) (L := [(0, _)]) rfl ?_
  refine lf_aload_n d_M_mustBeClosed_0 rfl rfl rfl ?_
  refine gi_getr s_M_mustBeClosed_1 (c_0 hM) rfl ?_
  refine lf_ifnonnull_r d_M_mustBeClosed_4 (tgt := 18) (by decide) rfl ?_
  refine lf_aload_n d_M_mustBeClosed_18 rfl rfl rfl ?_
  refine gi_getr s_M_mustBeClosed_19 (c_0 hM) rfl ?_
  refine gw_aret d_M_mustBeClosed_22 rfl (Or.inl ⟨_, rfl⟩) ?_
  exact ⟨rfl, rfl, rfl, rfl⟩
theorem m_mustBeClosed_t (hx : HX X L9 xs)(hM : clM sh .null) : EVt TT cl6 X mi_M_mustBeClosed 0 [.ref 0] sh I J "java/lang/UnsupportedOperationException" := by
  refine gw_enter (hx_ok hx) (by decide +kernel) (Nat.le_of_ble_eq_true rfl) (L := [(0, _)]) rfl ?_
  refine lf_aload_n d_M_mustBeClosed_0 rfl rfl rfl ?_
  refine gi_getn s_M_mustBeClosed_1 (c_0 hM) rfl ?_
  refine lf_ifnonnull_n d_M_mustBeClosed_4 ?_
  refine gw_thr (s_M_mustBeClosed_7 hx) (by decide) (Nat.le_of_ble_eq_true rfl) ?_
  exact ⟨_, _, _, rfl, rfl, rfl, rfl, rfl⟩
theorem m_mustBeWithin (hx : HX X L9 xs) {z lo hi : Int} (hz : -2147483648 ≤ z ∧ z < 2147483648 ∧ -2147483648 ≤ lo ∧ lo < 2147483648 ∧ -2147483648 ≤ hi ∧ hi < 2147483648) (hi9 : lo ≤ z ∧ z ≤ hi) : EVn TT cl6 X mi_M_mustBeWithin 0 [.int (Int32.ofInt (z)), .int (Int32.ofInt (lo)), .int (Int32.ofInt (hi))] sh I J  := by
  refine gw_enter (hx_ok hx) (by decide +kernel) (Nat.le_of_ble_eq_true rfl) (L := [(0, _), (1, _), (2, _)]) rfl ?_
  refine lf_iload_n d_M_mustBeWithin_0 rfl rfl ?_
  refine lf_iload_n d_M_mustBeWithin_1 rfl rfl ?_
  refine gi_icmp_lt d_M_mustBeWithin_2 (tgt := 10) (by decide) (by omega) (fun hb2 => False.elim (by omega)) (fun hb2 => ?_)
  refine lf_iload_n d_M_mustBeWithin_5 rfl rfl ?_
  refine lf_iload_n d_M_mustBeWithin_6 rfl rfl ?_
  refine gi_icmp_le d_M_mustBeWithin_7 (tgt := 21) (by decide) (by omega) (fun hb7 => ?_) (fun hb7 => False.elim (by omega))
  refine gw_ret d_M_mustBeWithin_21 rfl ?_
  exact ⟨rfl, rfl, rfl, rfl⟩
theorem m_mustBeWithin_t (hx : HX X L9 xs) {z lo hi : Int} (hz : -2147483648 ≤ z ∧ z < 2147483648 ∧ -2147483648 ≤ lo ∧ lo < 2147483648 ∧ -2147483648 ≤ hi ∧ hi < 2147483648) (hi9 : z < lo ∨ hi < z) : EVt TT cl6 X mi_M_mustBeWithin 0 [.int (Int32.ofInt (z)), .int (Int32.ofInt (lo)), .int (Int32.ofInt (hi))] sh I J "java/lang/IllegalArgumentException" := by
  refine gw_enter (hx_ok hx) (by decide +kernel) (Nat.le_of_ble_eq_true rfl) (L := [(0, _), (1, _), (2, _)]) rfl ?_
  refine lf_iload_n d_M_mustBeWithin_0 rfl rfl ?_
  refine lf_iload_n d_M_mustBeWithin_1 rfl rfl ?_
  refine gi_icmp_lt d_M_mustBeWithin_2 (tgt := 10) (by decide) (by omega) (fun hb2 => ?_) (fun hb2 => ?_)
  · refine gw_thr (s_M_mustBeWithin_10 hx) (by decide) (Nat.le_of_ble_eq_true rfl) ?_
    exact ⟨_, _, _, rfl, rfl, rfl, rfl, rfl⟩
  · refine lf_iload_n d_M_mustBeWithin_5 rfl rfl ?_
    refine lf_iload_n d_M_mustBeWithin_6 rfl rfl ?_
    refine gi_icmp_le d_M_mustBeWithin_7 (tgt := 21) (by decide) (by omega) (fun hb7 => ?_) (fun hb7 => ?_)
    · exact False.elim (by omega)
    · refine gw_thr (s_M_mustBeWithin_10 hx) (by decide) (Nat.le_of_ble_eq_true rfl) ?_
      exact ⟨_, _, _, rfl, rfl, rfl, rfl, rfl⟩
theorem m_mustBeLine (hx : HX X L9 xs) (hN : clN sh) {hs : Value} (hM : clM sh hs) {n : Nat} (hn : I 1 11 = n) (hn2 : n ≤ 80) {z : Int} (hz0 : -2147483648 ≤ z ∧ z < 2147483648) (hz : 0 ≤ z ∧ z < n) : EVn TT cl6 X mi_M_mustBeLine 1 [.ref 0, .int (Int32.ofInt (z))] sh I J  := by
  refine gw_enter (hx_ok hx) (by decide +kernel) (Nat.le_of_ble_eq_true rfl) (L := [(0, _), (1, _)]) rfl ?_
  refine lf_aload_n d_M_mustBeLine_0 rfl rfl rfl ?_
  refine gi_getr s_M_mustBeLine_1 (c_0 hM) rfl ?_
  refine lf_iload_n d_M_mustBeLine_4 rfl rfl ?_
  refine gw_callP s_M_mustBeLine_5 (n_hasLine hx hN (by omega) (by omega)) (S := []) rfl rfl (gcR_2 (c_1 hN)) (by decide) (by decide +kernel) (Nat.le_of_ble_eq_true rfl) ?_
  refine gb_if_ne d_M_mustBeLine_8 (tgt := 22) (by decide) (fun hb8 => ?_) (fun hb8 => False.elim (by omega))
  refine gw_ret d_M_mustBeLine_22 rfl ?_
  exact ⟨rfl, rfl, rfl, rfl⟩
theorem m_mustBeLine_t (hx : HX X L9 xs) (hN : clN sh) {hs : Value} (hM : clM sh hs) {n : Nat} (hn : I 1 11 = n) (hn2 : n ≤ 80) {z : Int} (hz0 : -2147483648 ≤ z ∧ z < 2147483648) (hz : z < 0 ∨ (n : Int) ≤ z) : EVt TT cl6 X mi_M_mustBeLine 1 [.ref 0, .int (Int32.ofInt (z))] sh I J "java/lang/IndexOutOfBoundsException" := by
  refine gw_enter (hx_ok hx) (by decide +kernel) (Nat.le_of_ble_eq_true rfl) (L := [(0, _), (1, _)]) rfl ?_
  refine lf_aload_n d_M_mustBeLine_0 rfl rfl rfl ?_
  refine gi_getr s_M_mustBeLine_1 (c_0 hM) rfl ?_
  refine lf_iload_n d_M_mustBeLine_4 rfl rfl ?_
  refine gw_callP s_M_mustBeLine_5 (n_hasLine hx hN (by omega) (by omega)) (S := []) rfl rfl (gcR_2 (c_1 hN)) (by decide) (by decide +kernel) (Nat.le_of_ble_eq_true rfl) ?_
  refine gb_if_ne d_M_mustBeLine_8 (tgt := 22) (by decide) (fun hb8 => False.elim (by omega)) (fun hb8 => ?_)
  refine gw_thr (s_M_mustBeLine_11 hx) (by decide) (Nat.le_of_ble_eq_true rfl) ?_
  exact ⟨_, _, _, rfl, rfl, rfl, rfl, rfl⟩
theorem m_mustBeCell (hx : HX X L9 xs) (hN : clN sh) {hs : Value} (hM : clM sh hs) (hR : NR I) {k : Nat} (hk : k < 80) (hc : I 3 k = 99) : EVn TT cl6 X mi_M_mustBeCell 2 [.ref 0, .int (Int32.ofInt ((k : Nat) : Int))] sh I J  := by
  refine gw_enter (hx_ok hx) (by decide +kernel) (Nat.le_of_ble_eq_true rfl) (L := [(0, _), (1, _)]) rfl ?_
  refine lf_aload_n d_M_mustBeCell_0 rfl rfl rfl ?_
  refine gi_getr s_M_mustBeCell_1 (c_0 hM) rfl ?_
  refine lf_iload_n d_M_mustBeCell_4 rfl rfl ?_
  refine gw_callP s_M_mustBeCell_5 (n_isCell hx hN hR (by omega)) (S := []) rfl rfl (gcR_2 (c_1 hN)) (by decide) (by decide +kernel) (Nat.le_of_ble_eq_true rfl) ?_
  refine gb_if_ne d_M_mustBeCell_8 (tgt := 22) (by decide) (fun hb8 => ?_) (fun hb8 => False.elim (by exact hb8 hc))
  refine gw_ret d_M_mustBeCell_22 rfl ?_
  exact ⟨rfl, rfl, rfl, rfl⟩
theorem m_mustBeCell_t (hx : HX X L9 xs) (hN : clN sh) {hs : Value} (hM : clM sh hs) (hR : NR I) {k : Nat} (hk : k < 80) (hc : ¬ I 3 k = 99) : EVt TT cl6 X mi_M_mustBeCell 2 [.ref 0, .int (Int32.ofInt ((k : Nat) : Int))] sh I J "java/lang/UnsupportedOperationException" := by
  refine gw_enter (hx_ok hx) (by decide +kernel) (Nat.le_of_ble_eq_true rfl) (L := [(0, _), (1, _)]) rfl ?_
  refine lf_aload_n d_M_mustBeCell_0 rfl rfl rfl ?_
  refine gi_getr s_M_mustBeCell_1 (c_0 hM) rfl ?_
  refine lf_iload_n d_M_mustBeCell_4 rfl rfl ?_
  refine gw_callP s_M_mustBeCell_5 (n_isCell hx hN hR (by omega)) (S := []) rfl rfl (gcR_2 (c_1 hN)) (by decide) (by decide +kernel) (Nat.le_of_ble_eq_true rfl) ?_
  refine gb_if_ne d_M_mustBeCell_8 (tgt := 22) (by decide) (fun hb8 => False.elim (by exact hc hb8)) (fun hb8 => ?_)
  refine gw_thr (s_M_mustBeCell_11 hx) (by decide) (Nat.le_of_ble_eq_true rfl) ?_
  exact ⟨_, _, _, rfl, rfl, rfl, rfl, rfl⟩
theorem m_mustBeChoice (hx : HX X L9 xs) (hN : clN sh) {hs9 : Value} (hM : clM sh hs9) {s : Nat} (hs : I 1 12 + I 11 0 + I 11 1 = (s : Int)) (hs2 : s ≤ 14) {z : Int} (hz0 : -2147483648 ≤ z ∧ z < 2147483648) (hz : 0 ≤ z ∧ z < ((2 ^ s : Nat) : Int)) : EVn TT cl6 X mi_M_mustBeChoice 3 [.ref 0, .int (Int32.ofInt (z))] sh I J  := by
  have h2 : 2 ^ s ≤ 16384 := Nat.pow_le_pow_right (n := 2) (by decide) hs2
  have h3 : 0 < 2 ^ s := Nat.two_pow_pos s
  refine gw_enter (hx_ok hx) (by decide +kernel) (Nat.le_of_ble_eq_true rfl) (L := [(0, _), (1, _)]) rfl ?_
  refine lf_iload_n d_M_mustBeChoice_0 rfl rfl ?_
  refine lf_iconst d_M_mustBeChoice_1 (v := Int32.ofInt ((0 : Nat) : Int)) rfl ?_
  refine lf_iconst d_M_mustBeChoice_2 (v := Int32.ofInt ((1 : Nat) : Int)) rfl ?_
  refine lf_aload_n d_M_mustBeChoice_3 rfl rfl rfl ?_
  refine gi_getr s_M_mustBeChoice_4 (c_0 hM) rfl ?_
  refine gw_callP s_M_mustBeChoice_7 (n_sourceCount hx hN) (S := [_, _, _]) rfl rfl (gcR_2 (c_1 hN)) (by decide) (by decide +kernel) (Nat.le_of_ble_eq_true rfl) ?_
  refine gi_top hs ?_
  refine gi_ishlN (a := 1) (s := s) d_M_mustBeChoice_10 (by omega) ?_
  refine gi_top (show ((1 * 2 ^ s : Nat) : Int) = ((2 ^ s : Nat) : Int) from by rw [Nat.one_mul]) ?_
  refine lf_iconst d_M_mustBeChoice_11 (v := Int32.ofInt ((1 : Nat) : Int)) rfl ?_
  refine gi_isub d_M_mustBeChoice_12 ?_
  refine gw_callN s_M_mustBeChoice_13 (m_mustBeWithin hx (by omega) (by omega)) (S := []) rfl rfl gcR_1 (by decide) (by decide +kernel) (Nat.le_of_ble_eq_true rfl) ?_
  refine gw_ret d_M_mustBeChoice_16 rfl ?_
  exact ⟨rfl, rfl, rfl, rfl⟩
theorem m_mustBeChoice_t (hx : HX X L9 xs) (hN : clN sh) {hs9 : Value} (hM : clM sh hs9) {s : Nat} (hs : I 1 12 + I 11 0 + I 11 1 = (s : Int)) (hs2 : s ≤ 14) {z : Int} (hz0 : -2147483648 ≤ z ∧ z < 2147483648) (hz : z < 0 ∨ ((2 ^ s : Nat) : Int) ≤ z) : EVt TT cl6 X mi_M_mustBeChoice 3 [.ref 0, .int (Int32.ofInt (z))] sh I J "java/lang/IllegalArgumentException" := by
  have h2 : 2 ^ s ≤ 16384 := Nat.pow_le_pow_right (n := 2) (by decide) hs2
  have h3 : 0 < 2 ^ s := Nat.two_pow_pos s
  refine gw_enter (hx_ok hx) (by decide +kernel) (Nat.le_of_ble_eq_true rfl) (L := [(0, _), (1, _)]) rfl ?_
  refine lf_iload_n d_M_mustBeChoice_0 rfl rfl ?_
  refine lf_iconst d_M_mustBeChoice_1 (v := Int32.ofInt ((0 : Nat) : Int)) rfl ?_
  refine lf_iconst d_M_mustBeChoice_2 (v := Int32.ofInt ((1 : Nat) : Int)) rfl ?_
  refine lf_aload_n d_M_mustBeChoice_3 rfl rfl rfl ?_
  refine gi_getr s_M_mustBeChoice_4 (c_0 hM) rfl ?_
  refine gw_callP s_M_mustBeChoice_7 (n_sourceCount hx hN) (S := [_, _, _]) rfl rfl (gcR_2 (c_1 hN)) (by decide) (by decide +kernel) (Nat.le_of_ble_eq_true rfl) ?_
  refine gi_top hs ?_
  refine gi_ishlN (a := 1) (s := s) d_M_mustBeChoice_10 (by omega) ?_
  refine gi_top (show ((1 * 2 ^ s : Nat) : Int) = ((2 ^ s : Nat) : Int) from by rw [Nat.one_mul]) ?_
  refine lf_iconst d_M_mustBeChoice_11 (v := Int32.ofInt ((1 : Nat) : Int)) rfl ?_
  refine gi_isub d_M_mustBeChoice_12 ?_
  refine gw_callT s_M_mustBeChoice_13 (m_mustBeWithin_t hx (by omega) (by omega)) (S := []) rfl rfl gcR_1 (by decide) (by decide +kernel) (Nat.le_of_ble_eq_true rfl) rfl ?_
  exact gt_out rfl ⟨rfl, rfl, rfl, rfl⟩
theorem m_input (hx : HX X L9 xs) (hN : clN sh) (hM : clM sh .null) {n m : Nat} (hn : I 1 11 = n) (hn2 : n < 80) (hm : I 1 12 = m) (hm2 : m < 6) : EVi TT cl6 X mi_M_input 3 [.ref 0] sh I J (fun r I1 J1 => r = n ∧ I1 = ipt (ipt (ipt (ipt (ipt (ipt I 1 12 ((m + 1 : Nat) : Int)) 3 n 105) 4 n 2) 5 n (-1)) 6 n (-1)) 1 11 ((n : Int) + 1) ∧ J1 = J) := by
  refine gw_enter (hx_ok hx) (by decide +kernel) (Nat.le_of_ble_eq_true rfl) (L := [(0, _)]) rfl ?_
  refine lf_aload_n d_M_input_0 rfl rfl rfl ?_
  refine gw_callN s_M_input_1 (m_mustBeOpen hx hM) (S := []) rfl rfl (gcR_2 (c_0 hM)) (by decide) (by decide +kernel) (Nat.le_of_ble_eq_true rfl) ?_
  refine lf_aload_n d_M_input_4 rfl rfl rfl ?_
  refine gi_getr s_M_input_5 (c_0 hM) rfl ?_
  refine gi_geti s_M_input_8 (c_1 hN) rfl ?_
  refine gi_top hn ?_
  refine lf_bipush d_M_input_11 (v := Int32.ofInt ((80 : Nat) : Int)) (by decide +kernel) ?_
  refine gi_icmp_ge d_M_input_13 (tgt := 28) (by decide) (by omega) (fun hb13 => False.elim (by omega)) (fun hb13 => ?_)
  refine lf_aload_n d_M_input_16 rfl rfl rfl ?_
  refine gi_getr s_M_input_17 (c_0 hM) rfl ?_
  refine gi_geti s_M_input_20 (c_1 hN) rfl ?_
  refine gi_top hm ?_
  refine lf_bipush d_M_input_23 (v := Int32.ofInt ((6 : Nat) : Int)) (by decide +kernel) ?_
  refine gi_icmp_lt d_M_input_25 (tgt := 38) (by decide) (by omega) (fun hb25 => ?_) (fun hb25 => False.elim (by omega))
  refine lf_aload_n d_M_input_38 rfl rfl rfl ?_
  refine gi_getr s_M_input_39 (c_0 hM) rfl ?_
  refine gw_callI s_M_input_42 (n_addInput hx hN hn hn2 hm) (S := []) rfl rfl (gcR_2 (c_1 hN)) (by decide) (by decide +kernel) (Nat.le_of_ble_eq_true rfl) (fun r42 I J w42 => ?_)
  refine gw_iret d_M_input_45 rfl ?_
  exact ⟨rfl, _, rfl, w42⟩
theorem m_input_t (hx : HX X L9 xs)(hM : clM sh (.ref 14)) : EVt TT cl6 X mi_M_input 3 [.ref 0] sh I J "java/lang/UnsupportedOperationException" := by
  refine gw_enter (hx_ok hx) (by decide +kernel) (Nat.le_of_ble_eq_true rfl) (L := [(0, _)]) rfl ?_
  refine lf_aload_n d_M_input_0 rfl rfl rfl ?_
  refine gw_callT s_M_input_1 (m_mustBeOpen_t hx hM) (S := []) rfl rfl (gcR_2 (c_0 hM)) (by decide) (by decide +kernel) (Nat.le_of_ble_eq_true rfl) rfl ?_
  exact gt_out rfl ⟨rfl, rfl, rfl, rfl⟩
theorem m_cell (hx : HX X L9 xs) (hN : clN sh) (hM : clM sh .null) (hR : NR I) (hna9 : ∀ k, -2147483648 ≤ I 8 k ∧ I 8 k < 2147483648) {n t c : Nat} (hn : I 1 11 = n) (hn2 : n < 80) (ht : t < 2) (hc : I 11 t = c) (hc4 : c < 4) {fi na : Int} (hfi : 0 ≤ fi ∧ fi ≤ 1) (hna : 0 ≤ na ∧ na ≤ 9) (hno : ∀ k, k < n → ¬ (I 3 k = 99 ∧ I 4 k = t ∧ I 8 k = na)) : EVi TT cl6 X mi_M_cell 3 [.ref 0, .int (Int32.ofInt ((t : Nat) : Int)), .int (Int32.ofInt (fi)), .int (Int32.ofInt (na))] sh I J (fun r I1 J1 => r = n ∧ I1 = ipt (ipt (ipt (ipt (ipt (ipt (ipt (ipt I 7 n fi) 8 n na) 11 t ((c + 1 : Nat) : Int)) 3 n 99) 4 n t) 5 n (-1)) 6 n (-1)) 1 11 ((n : Int) + 1) ∧ J1 = J) := by
  refine gw_enter (hx_ok hx) (by decide +kernel) (Nat.le_of_ble_eq_true rfl) (L := [(0, _), (1, _), (2, _), (3, _)]) rfl ?_
  refine lf_iload_n d_M_cell_0 rfl rfl ?_
  refine lf_iconst d_M_cell_1 (v := Int32.ofInt ((0 : Nat) : Int)) rfl ?_
  refine lf_iconst d_M_cell_2 (v := Int32.ofInt ((1 : Nat) : Int)) rfl ?_
  refine gw_callN s_M_cell_3 (m_mustBeWithin hx (by omega) (by omega)) (S := []) rfl rfl gcR_1 (by decide) (by decide +kernel) (Nat.le_of_ble_eq_true rfl) ?_
  refine lf_iload_n d_M_cell_6 rfl rfl ?_
  refine lf_iconst d_M_cell_7 (v := Int32.ofInt ((0 : Nat) : Int)) rfl ?_
  refine lf_iconst d_M_cell_8 (v := Int32.ofInt ((1 : Nat) : Int)) rfl ?_
  refine gw_callN s_M_cell_9 (m_mustBeWithin hx (by omega) (by omega)) (S := []) rfl rfl gcR_1 (by decide) (by decide +kernel) (Nat.le_of_ble_eq_true rfl) ?_
  refine lf_iload_n d_M_cell_12 rfl rfl ?_
  refine lf_iconst d_M_cell_13 (v := Int32.ofInt ((0 : Nat) : Int)) rfl ?_
  refine lf_bipush d_M_cell_14 (v := Int32.ofInt ((9 : Nat) : Int)) (by decide +kernel) ?_
  refine gw_callN s_M_cell_16 (m_mustBeWithin hx (by omega) (by omega)) (S := []) rfl rfl gcR_1 (by decide) (by decide +kernel) (Nat.le_of_ble_eq_true rfl) ?_
  refine lf_aload_n d_M_cell_19 rfl rfl rfl ?_
  refine gw_callN s_M_cell_20 (m_mustBeOpen hx hM) (S := []) rfl rfl (gcR_2 (c_0 hM)) (by decide) (by decide +kernel) (Nat.le_of_ble_eq_true rfl) ?_
  refine lf_aload_n d_M_cell_23 rfl rfl rfl ?_
  refine gi_getr s_M_cell_24 (c_0 hM) rfl ?_
  refine lf_iload_n d_M_cell_27 rfl rfl ?_
  refine lf_iload_n d_M_cell_28 rfl rfl ?_
  refine gw_callP s_M_cell_29 (n_cellNamed hx hN hR hna9 hn (by omega) (by omega) hna hno) (S := []) rfl rfl (gcR_2 (c_1 hN)) (by decide) (by decide +kernel) (Nat.le_of_ble_eq_true rfl) ?_
  refine gi_if_lt d_M_cell_32 (tgt := 45) (by decide) (by omega) (fun hb32 => ?_) (fun hb32 => False.elim (by omega))
  refine lf_aload_n d_M_cell_45 rfl rfl rfl ?_
  refine gi_getr s_M_cell_46 (c_0 hM) rfl ?_
  refine gi_geti s_M_cell_49 (c_1 hN) rfl ?_
  refine gi_top hn ?_
  refine lf_bipush d_M_cell_52 (v := Int32.ofInt ((80 : Nat) : Int)) (by decide +kernel) ?_
  refine gi_icmp_ge d_M_cell_54 (tgt := 69) (by decide) (by omega) (fun hb54 => False.elim (by omega)) (fun hb54 => ?_)
  refine lf_aload_n d_M_cell_57 rfl rfl rfl ?_
  refine gi_getr s_M_cell_58 (c_0 hM) rfl ?_
  refine lf_iload_n d_M_cell_61 rfl rfl ?_
  refine gw_callP s_M_cell_62 (n_cellsOf hx hN (by omega)) (S := []) rfl rfl (gcR_2 (c_1 hN)) (by decide) (by decide +kernel) (Nat.le_of_ble_eq_true rfl) ?_
  refine gi_top hc ?_
  refine lf_iconst d_M_cell_65 (v := Int32.ofInt ((4 : Nat) : Int)) rfl ?_
  refine gi_icmp_lt d_M_cell_66 (tgt := 79) (by decide) (by omega) (fun hb66 => ?_) (fun hb66 => False.elim (by omega))
  refine lf_aload_n d_M_cell_79 rfl rfl rfl ?_
  refine gi_getr s_M_cell_80 (c_0 hM) rfl ?_
  refine lf_iload_n d_M_cell_83 rfl rfl ?_
  refine lf_iload_n d_M_cell_84 rfl rfl ?_
  refine lf_iload_n d_M_cell_85 rfl rfl ?_
  refine gw_callI s_M_cell_86 (n_addCell hx hN hn hn2 ht hc) (S := []) rfl rfl (gcR_2 (c_1 hN)) (by decide) (by decide +kernel) (Nat.le_of_ble_eq_true rfl) (fun r86 I J w86 => ?_)
  refine gw_iret d_M_cell_89 rfl ?_
  exact ⟨rfl, _, rfl, w86⟩
theorem m_cell_t (hx : HX X L9 xs) {z fi na : Int} (hz : z = 2) : EVt TT cl6 X mi_M_cell 3 [.ref 0, .int (Int32.ofInt (z)), .int (Int32.ofInt (fi)), .int (Int32.ofInt (na))] sh I J "java/lang/IllegalArgumentException" := by
  refine gw_enter (hx_ok hx) (by decide +kernel) (Nat.le_of_ble_eq_true rfl) (L := [(0, _), (1, _), (2, _), (3, _)]) rfl ?_
  refine lf_iload_n d_M_cell_0 rfl rfl ?_
  refine lf_iconst d_M_cell_1 (v := Int32.ofInt ((0 : Nat) : Int)) rfl ?_
  refine lf_iconst d_M_cell_2 (v := Int32.ofInt ((1 : Nat) : Int)) rfl ?_
  refine gw_callT s_M_cell_3 (m_mustBeWithin_t hx (by omega) (by omega)) (S := []) rfl rfl gcR_1 (by decide) (by decide +kernel) (Nat.le_of_ble_eq_true rfl) rfl ?_
  exact gt_out rfl ⟨rfl, rfl, rfl, rfl⟩
theorem m_isPairKind (hx : HX X L9 xs) {kd : Int} (hk : 0 ≤ kd ∧ kd < 65536) : EVp TT cl6 X mi_M_isPairKind 0 [.int (Int32.ofInt (kd))] sh I J (.int (Int32.ofInt (if kd = 97 ∨ kd = 111 ∨ kd = 120 ∨ kd = 110 ∨ kd = 114 then 1 else 0))) := by
  refine gw_enter (hx_ok hx) (by decide +kernel) (Nat.le_of_ble_eq_true rfl) (L := [(0, _)]) rfl ?_
  refine lf_iload_n d_M_isPairKind_0 rfl rfl ?_
  refine lf_bipush d_M_isPairKind_1 (v := Int32.ofInt ((97 : Nat) : Int)) (by decide +kernel) ?_
  refine gi_icmp_eq d_M_isPairKind_3 (tgt := 30) (by decide) (by omega) (fun hb3 => ?_) (fun hb3 => ?_)
  · refine lf_iconst d_M_isPairKind_30 (v := Int32.ofInt ((1 : Nat) : Int)) rfl ?_
    refine lf_goto d_M_isPairKind_31 (tgt := 35) (by decide) ?_
    refine gw_zret d_M_isPairKind_35 rfl (by omega) ?_
    first
      | exact ⟨rfl, congrArg (fun z => some (Value.int (Int32.ofInt z))) (if_pos (by omega)).symm, rfl, rfl⟩
      | exact ⟨rfl, congrArg (fun z => some (Value.int (Int32.ofInt z))) (if_neg (by omega)).symm, rfl, rfl⟩
  · refine lf_iload_n d_M_isPairKind_6 rfl rfl ?_
    refine lf_bipush d_M_isPairKind_7 (v := Int32.ofInt ((111 : Nat) : Int)) (by decide +kernel) ?_
    refine gi_icmp_eq d_M_isPairKind_9 (tgt := 30) (by decide) (by omega) (fun hb9 => ?_) (fun hb9 => ?_)
    · refine lf_iconst d_M_isPairKind_30 (v := Int32.ofInt ((1 : Nat) : Int)) rfl ?_
      refine lf_goto d_M_isPairKind_31 (tgt := 35) (by decide) ?_
      refine gw_zret d_M_isPairKind_35 rfl (by omega) ?_
      first
        | exact ⟨rfl, congrArg (fun z => some (Value.int (Int32.ofInt z))) (if_pos (by omega)).symm, rfl, rfl⟩
        | exact ⟨rfl, congrArg (fun z => some (Value.int (Int32.ofInt z))) (if_neg (by omega)).symm, rfl, rfl⟩
    · refine lf_iload_n d_M_isPairKind_12 rfl rfl ?_
      refine lf_bipush d_M_isPairKind_13 (v := Int32.ofInt ((120 : Nat) : Int)) (by decide +kernel) ?_
      refine gi_icmp_eq d_M_isPairKind_15 (tgt := 30) (by decide) (by omega) (fun hb15 => ?_) (fun hb15 => ?_)
      · refine lf_iconst d_M_isPairKind_30 (v := Int32.ofInt ((1 : Nat) : Int)) rfl ?_
        refine lf_goto d_M_isPairKind_31 (tgt := 35) (by decide) ?_
        refine gw_zret d_M_isPairKind_35 rfl (by omega) ?_
        first
          | exact ⟨rfl, congrArg (fun z => some (Value.int (Int32.ofInt z))) (if_pos (by omega)).symm, rfl, rfl⟩
          | exact ⟨rfl, congrArg (fun z => some (Value.int (Int32.ofInt z))) (if_neg (by omega)).symm, rfl, rfl⟩
      · refine lf_iload_n d_M_isPairKind_18 rfl rfl ?_
        refine lf_bipush d_M_isPairKind_19 (v := Int32.ofInt ((110 : Nat) : Int)) (by decide +kernel) ?_
        refine gi_icmp_eq d_M_isPairKind_21 (tgt := 30) (by decide) (by omega) (fun hb21 => ?_) (fun hb21 => ?_)
        · refine lf_iconst d_M_isPairKind_30 (v := Int32.ofInt ((1 : Nat) : Int)) rfl ?_
          refine lf_goto d_M_isPairKind_31 (tgt := 35) (by decide) ?_
          refine gw_zret d_M_isPairKind_35 rfl (by omega) ?_
          first
            | exact ⟨rfl, congrArg (fun z => some (Value.int (Int32.ofInt z))) (if_pos (by omega)).symm, rfl, rfl⟩
            | exact ⟨rfl, congrArg (fun z => some (Value.int (Int32.ofInt z))) (if_neg (by omega)).symm, rfl, rfl⟩
        · refine lf_iload_n d_M_isPairKind_24 rfl rfl ?_
          refine lf_bipush d_M_isPairKind_25 (v := Int32.ofInt ((114 : Nat) : Int)) (by decide +kernel) ?_
          refine gi_icmp_ne d_M_isPairKind_27 (tgt := 34) (by decide) (by omega) (fun hb27 => ?_) (fun hb27 => ?_)
          · refine lf_iconst d_M_isPairKind_34 (v := Int32.ofInt ((0 : Nat) : Int)) rfl ?_
            refine gw_zret d_M_isPairKind_35 rfl (by omega) ?_
            first
              | exact ⟨rfl, congrArg (fun z => some (Value.int (Int32.ofInt z))) (if_pos (by omega)).symm, rfl, rfl⟩
              | exact ⟨rfl, congrArg (fun z => some (Value.int (Int32.ofInt z))) (if_neg (by omega)).symm, rfl, rfl⟩
          · refine lf_iconst d_M_isPairKind_30 (v := Int32.ofInt ((1 : Nat) : Int)) rfl ?_
            refine lf_goto d_M_isPairKind_31 (tgt := 35) (by decide) ?_
            refine gw_zret d_M_isPairKind_35 rfl (by omega) ?_
            first
              | exact ⟨rfl, congrArg (fun z => some (Value.int (Int32.ofInt z))) (if_pos (by omega)).symm, rfl, rfl⟩
              | exact ⟨rfl, congrArg (fun z => some (Value.int (Int32.ofInt z))) (if_neg (by omega)).symm, rfl, rfl⟩
theorem m_gate1 (hx : HX X L9 xs) (hN : clN sh) (hM : clM sh .null) (hR : NR I) {n t a b : Nat} {kd : Int} (hn : I 1 11 = n) (hn2 : n < 80) (ht : t < 2) (ha : a < n) (hb : b < n) (hk : kd = 98 ∨ kd = 118) (hfa : I 4 a = t ∨ I 4 a = 2) : EVi TT cl6 X mi_M_gate 3 [.ref 0, .int (Int32.ofInt ((t : Nat) : Int)), .int (Int32.ofInt (kd)), .int (Int32.ofInt ((a : Nat) : Int)), .int (Int32.ofInt ((b : Nat) : Int))] sh I J (fun r I1 J1 => r = n ∧ I1 = ipt (ipt (ipt (ipt (ipt I 3 n kd) 4 n t) 5 n a) 6 n a) 1 11 ((n : Int) + 1) ∧ J1 = J) := by
  refine gw_enter (hx_ok hx) (by decide +kernel) (Nat.le_of_ble_eq_true rfl) (L := [(0, _), (1, _), (2, _), (3, _), (4, _)]) rfl ?_
  by_cases q : kd = 98
  · refine lf_iload_n d_M_gate_0 rfl rfl ?_
    refine lf_iconst d_M_gate_1 (v := Int32.ofInt ((0 : Nat) : Int)) rfl ?_
    refine lf_iconst d_M_gate_2 (v := Int32.ofInt ((1 : Nat) : Int)) rfl ?_
    refine gw_callN s_M_gate_3 (m_mustBeWithin hx (by omega) (by omega)) (S := []) rfl rfl gcR_1 (by decide) (by decide +kernel) (Nat.le_of_ble_eq_true rfl) ?_
    refine lf_iload_n d_M_gate_6 rfl rfl ?_
    refine lf_bipush d_M_gate_7 (v := Int32.ofInt ((98 : Nat) : Int)) (by decide +kernel) ?_
    refine gi_icmp_eq d_M_gate_9 (tgt := 18) (by decide) (by omega) (fun hb9 => ?_) (fun hb9 => False.elim (by omega))
    refine lf_iconst d_M_gate_18 (v := Int32.ofInt ((1 : Nat) : Int)) rfl ?_
    refine lf_goto d_M_gate_19 (tgt := 23) (by decide) ?_
    refine lf_istore d_M_gate_23 (by decide +kernel) (L2 := [(5, _), (0, _), (1, _), (2, _), (3, _), (4, _)]) rfl ?_
    refine lf_iload d_M_gate_25 rfl ?_
    refine gi_if_ne d_M_gate_27 (tgt := 47) (by decide) (by omega) (fun hb27 => ?_) (fun hb27 => False.elim (by omega))
    refine lf_iload d_M_gate_47 rfl ?_
    refine gi_if_eq d_M_gate_49 (tgt := 56) (by decide) (by omega) (fun hb49 => False.elim (by omega)) (fun hb49 => ?_)
    refine lf_iload_n d_M_gate_52 rfl rfl ?_
    refine lf_goto d_M_gate_53 (tgt := 58) (by decide) ?_
    refine lf_istore d_M_gate_58 (by decide +kernel) (L2 := [(6, _), (5, _), (0, _), (1, _), (2, _), (3, _), (4, _)]) rfl ?_
    refine lf_aload_n d_M_gate_60 rfl rfl rfl ?_
    refine lf_iload_n d_M_gate_61 rfl rfl ?_
    refine gw_callN s_M_gate_62 (m_mustBeLine hx hN hM hn (by omega) (by omega) (by omega)) (S := []) rfl rfl (gcR_2 (c_0 hM)) (by decide) (by decide +kernel) (Nat.le_of_ble_eq_true rfl) ?_
    refine lf_aload_n d_M_gate_65 rfl rfl rfl ?_
    refine lf_iload d_M_gate_66 rfl ?_
    refine gw_callN s_M_gate_68 (m_mustBeLine hx hN hM hn (by omega) (by omega) (by omega)) (S := []) rfl rfl (gcR_2 (c_0 hM)) (by decide) (by decide +kernel) (Nat.le_of_ble_eq_true rfl) ?_
    refine lf_aload_n d_M_gate_71 rfl rfl rfl ?_
    refine gw_callN s_M_gate_72 (m_mustBeOpen hx hM) (S := []) rfl rfl (gcR_2 (c_0 hM)) (by decide) (by decide +kernel) (Nat.le_of_ble_eq_true rfl) ?_
    refine lf_aload_n d_M_gate_75 rfl rfl rfl ?_
    refine gi_getr s_M_gate_76 (c_0 hM) rfl ?_
    refine lf_iload_n d_M_gate_79 rfl rfl ?_
    refine lf_iload_n d_M_gate_80 rfl rfl ?_
    refine gw_callP s_M_gate_81 (n_fits hx hN hR (by omega)) (S := []) rfl rfl (gcR_2 (c_1 hN)) (by decide) (by decide +kernel) (Nat.le_of_ble_eq_true rfl) ?_
    refine gb_if_eq d_M_gate_84 (tgt := 100) (by decide) (fun hb84 => False.elim (by exact hb84 hfa)) (fun hb84 => ?_)
    refine lf_aload_n d_M_gate_87 rfl rfl rfl ?_
    refine gi_getr s_M_gate_88 (c_0 hM) rfl ?_
    refine lf_iload_n d_M_gate_91 rfl rfl ?_
    refine lf_iload d_M_gate_92 rfl ?_
    refine gw_callP s_M_gate_94 (n_fits hx hN hR (by omega)) (S := []) rfl rfl (gcR_2 (c_1 hN)) (by decide) (by decide +kernel) (Nat.le_of_ble_eq_true rfl) ?_
    refine gb_if_ne d_M_gate_97 (tgt := 110) (by decide) (fun hb97 => ?_) (fun hb97 => False.elim (by exact hb97 hfa))
    refine lf_aload_n d_M_gate_110 rfl rfl rfl ?_
    refine gi_getr s_M_gate_111 (c_0 hM) rfl ?_
    refine gi_geti s_M_gate_114 (c_1 hN) rfl ?_
    refine gi_top hn ?_
    refine lf_bipush d_M_gate_117 (v := Int32.ofInt ((80 : Nat) : Int)) (by decide +kernel) ?_
    refine gi_icmp_lt d_M_gate_119 (tgt := 132) (by decide) (by omega) (fun hb119 => ?_) (fun hb119 => False.elim (by omega))
    refine lf_aload_n d_M_gate_132 rfl rfl rfl ?_
    refine gi_getr s_M_gate_133 (c_0 hM) rfl ?_
    refine lf_iload_n d_M_gate_136 rfl rfl ?_
    refine lf_iload_n d_M_gate_137 rfl rfl ?_
    refine lf_iload_n d_M_gate_138 rfl rfl ?_
    refine lf_iload d_M_gate_139 rfl ?_
    refine gw_callI s_M_gate_141 (n_addGate hx hN hn hn2 (by omega)) (S := []) rfl rfl (gcR_2 (c_1 hN)) (by decide) (by decide +kernel) (Nat.le_of_ble_eq_true rfl) (fun r141 I J w141 => ?_)
    refine gw_iret d_M_gate_144 rfl ?_
    exact ⟨rfl, _, rfl, w141⟩
  · refine lf_iload_n d_M_gate_0 rfl rfl ?_
    refine lf_iconst d_M_gate_1 (v := Int32.ofInt ((0 : Nat) : Int)) rfl ?_
    refine lf_iconst d_M_gate_2 (v := Int32.ofInt ((1 : Nat) : Int)) rfl ?_
    refine gw_callN s_M_gate_3 (m_mustBeWithin hx (by omega) (by omega)) (S := []) rfl rfl gcR_1 (by decide) (by decide +kernel) (Nat.le_of_ble_eq_true rfl) ?_
    refine lf_iload_n d_M_gate_6 rfl rfl ?_
    refine lf_bipush d_M_gate_7 (v := Int32.ofInt ((98 : Nat) : Int)) (by decide +kernel) ?_
    refine gi_icmp_eq d_M_gate_9 (tgt := 18) (by decide) (by omega) (fun hb9 => False.elim (by omega)) (fun hb9 => ?_)
    refine lf_iload_n d_M_gate_12 rfl rfl ?_
    refine lf_bipush d_M_gate_13 (v := Int32.ofInt ((118 : Nat) : Int)) (by decide +kernel) ?_
    refine gi_icmp_ne d_M_gate_15 (tgt := 22) (by decide) (by omega) (fun hb15 => False.elim (by omega)) (fun hb15 => ?_)
    refine lf_iconst d_M_gate_18 (v := Int32.ofInt ((1 : Nat) : Int)) rfl ?_
    refine lf_goto d_M_gate_19 (tgt := 23) (by decide) ?_
    refine lf_istore d_M_gate_23 (by decide +kernel) (L2 := [(5, _), (0, _), (1, _), (2, _), (3, _), (4, _)]) rfl ?_
    refine lf_iload d_M_gate_25 rfl ?_
    refine gi_if_ne d_M_gate_27 (tgt := 47) (by decide) (by omega) (fun hb27 => ?_) (fun hb27 => False.elim (by omega))
    refine lf_iload d_M_gate_47 rfl ?_
    refine gi_if_eq d_M_gate_49 (tgt := 56) (by decide) (by omega) (fun hb49 => False.elim (by omega)) (fun hb49 => ?_)
    refine lf_iload_n d_M_gate_52 rfl rfl ?_
    refine lf_goto d_M_gate_53 (tgt := 58) (by decide) ?_
    refine lf_istore d_M_gate_58 (by decide +kernel) (L2 := [(6, _), (5, _), (0, _), (1, _), (2, _), (3, _), (4, _)]) rfl ?_
    refine lf_aload_n d_M_gate_60 rfl rfl rfl ?_
    refine lf_iload_n d_M_gate_61 rfl rfl ?_
    refine gw_callN s_M_gate_62 (m_mustBeLine hx hN hM hn (by omega) (by omega) (by omega)) (S := []) rfl rfl (gcR_2 (c_0 hM)) (by decide) (by decide +kernel) (Nat.le_of_ble_eq_true rfl) ?_
    refine lf_aload_n d_M_gate_65 rfl rfl rfl ?_
    refine lf_iload d_M_gate_66 rfl ?_
    refine gw_callN s_M_gate_68 (m_mustBeLine hx hN hM hn (by omega) (by omega) (by omega)) (S := []) rfl rfl (gcR_2 (c_0 hM)) (by decide) (by decide +kernel) (Nat.le_of_ble_eq_true rfl) ?_
    refine lf_aload_n d_M_gate_71 rfl rfl rfl ?_
    refine gw_callN s_M_gate_72 (m_mustBeOpen hx hM) (S := []) rfl rfl (gcR_2 (c_0 hM)) (by decide) (by decide +kernel) (Nat.le_of_ble_eq_true rfl) ?_
    refine lf_aload_n d_M_gate_75 rfl rfl rfl ?_
    refine gi_getr s_M_gate_76 (c_0 hM) rfl ?_
    refine lf_iload_n d_M_gate_79 rfl rfl ?_
    refine lf_iload_n d_M_gate_80 rfl rfl ?_
    refine gw_callP s_M_gate_81 (n_fits hx hN hR (by omega)) (S := []) rfl rfl (gcR_2 (c_1 hN)) (by decide) (by decide +kernel) (Nat.le_of_ble_eq_true rfl) ?_
    refine gb_if_eq d_M_gate_84 (tgt := 100) (by decide) (fun hb84 => False.elim (by exact hb84 hfa)) (fun hb84 => ?_)
    refine lf_aload_n d_M_gate_87 rfl rfl rfl ?_
    refine gi_getr s_M_gate_88 (c_0 hM) rfl ?_
    refine lf_iload_n d_M_gate_91 rfl rfl ?_
    refine lf_iload d_M_gate_92 rfl ?_
    refine gw_callP s_M_gate_94 (n_fits hx hN hR (by omega)) (S := []) rfl rfl (gcR_2 (c_1 hN)) (by decide) (by decide +kernel) (Nat.le_of_ble_eq_true rfl) ?_
    refine gb_if_ne d_M_gate_97 (tgt := 110) (by decide) (fun hb97 => ?_) (fun hb97 => False.elim (by exact hb97 hfa))
    refine lf_aload_n d_M_gate_110 rfl rfl rfl ?_
    refine gi_getr s_M_gate_111 (c_0 hM) rfl ?_
    refine gi_geti s_M_gate_114 (c_1 hN) rfl ?_
    refine gi_top hn ?_
    refine lf_bipush d_M_gate_117 (v := Int32.ofInt ((80 : Nat) : Int)) (by decide +kernel) ?_
    refine gi_icmp_lt d_M_gate_119 (tgt := 132) (by decide) (by omega) (fun hb119 => ?_) (fun hb119 => False.elim (by omega))
    refine lf_aload_n d_M_gate_132 rfl rfl rfl ?_
    refine gi_getr s_M_gate_133 (c_0 hM) rfl ?_
    refine lf_iload_n d_M_gate_136 rfl rfl ?_
    refine lf_iload_n d_M_gate_137 rfl rfl ?_
    refine lf_iload_n d_M_gate_138 rfl rfl ?_
    refine lf_iload d_M_gate_139 rfl ?_
    refine gw_callI s_M_gate_141 (n_addGate hx hN hn hn2 (by omega)) (S := []) rfl rfl (gcR_2 (c_1 hN)) (by decide) (by decide +kernel) (Nat.le_of_ble_eq_true rfl) (fun r141 I J w141 => ?_)
    refine gw_iret d_M_gate_144 rfl ?_
    exact ⟨rfl, _, rfl, w141⟩
theorem m_gate2 (hx : HX X L9 xs) (hN : clN sh) (hM : clM sh .null) (hR : NR I) {n t a b : Nat} {kd : Int} (hn : I 1 11 = n) (hn2 : n < 80) (ht : t < 2) (ha : a < n) (hb : b < n) (hk : kd = 97 ∨ kd = 111 ∨ kd = 120 ∨ kd = 110 ∨ kd = 114) (hfa : I 4 a = t ∨ I 4 a = 2) (hfb : I 4 b = t ∨ I 4 b = 2) : EVi TT cl6 X mi_M_gate 3 [.ref 0, .int (Int32.ofInt ((t : Nat) : Int)), .int (Int32.ofInt (kd)), .int (Int32.ofInt ((a : Nat) : Int)), .int (Int32.ofInt ((b : Nat) : Int))] sh I J (fun r I1 J1 => r = n ∧ I1 = ipt (ipt (ipt (ipt (ipt I 3 n kd) 4 n t) 5 n a) 6 n b) 1 11 ((n : Int) + 1) ∧ J1 = J) := by
  refine gw_enter (hx_ok hx) (by decide +kernel) (Nat.le_of_ble_eq_true rfl) (L := [(0, _), (1, _), (2, _), (3, _), (4, _)]) rfl ?_
  refine lf_iload_n d_M_gate_0 rfl rfl ?_
  refine lf_iconst d_M_gate_1 (v := Int32.ofInt ((0 : Nat) : Int)) rfl ?_
  refine lf_iconst d_M_gate_2 (v := Int32.ofInt ((1 : Nat) : Int)) rfl ?_
  refine gw_callN s_M_gate_3 (m_mustBeWithin hx (by omega) (by omega)) (S := []) rfl rfl gcR_1 (by decide) (by decide +kernel) (Nat.le_of_ble_eq_true rfl) ?_
  refine lf_iload_n d_M_gate_6 rfl rfl ?_
  refine lf_bipush d_M_gate_7 (v := Int32.ofInt ((98 : Nat) : Int)) (by decide +kernel) ?_
  refine gi_icmp_eq d_M_gate_9 (tgt := 18) (by decide) (by omega) (fun hb9 => False.elim (by omega)) (fun hb9 => ?_)
  refine lf_iload_n d_M_gate_12 rfl rfl ?_
  refine lf_bipush d_M_gate_13 (v := Int32.ofInt ((118 : Nat) : Int)) (by decide +kernel) ?_
  refine gi_icmp_ne d_M_gate_15 (tgt := 22) (by decide) (by omega) (fun hb15 => ?_) (fun hb15 => False.elim (by omega))
  refine lf_iconst d_M_gate_22 (v := Int32.ofInt ((0 : Nat) : Int)) rfl ?_
  refine lf_istore d_M_gate_23 (by decide +kernel) (L2 := [(5, _), (0, _), (1, _), (2, _), (3, _), (4, _)]) rfl ?_
  refine lf_iload d_M_gate_25 rfl ?_
  refine gi_if_ne d_M_gate_27 (tgt := 47) (by decide) (by omega) (fun hb27 => False.elim (by omega)) (fun hb27 => ?_)
  refine lf_iload_n d_M_gate_30 rfl rfl ?_
  refine gw_callP s_M_gate_31 (m_isPairKind hx (by omega)) (S := []) rfl rfl gcR_1 (by decide) (by decide +kernel) (Nat.le_of_ble_eq_true rfl) ?_
  refine gb_if_ne d_M_gate_34 (tgt := 47) (by decide) (fun hb34 => ?_) (fun hb34 => False.elim (by exact hb34 hk))
  refine lf_iload d_M_gate_47 rfl ?_
  refine gi_if_eq d_M_gate_49 (tgt := 56) (by decide) (by omega) (fun hb49 => ?_) (fun hb49 => False.elim (by omega))
  refine lf_iload d_M_gate_56 rfl ?_
  refine lf_istore d_M_gate_58 (by decide +kernel) (L2 := [(6, _), (5, _), (0, _), (1, _), (2, _), (3, _), (4, _)]) rfl ?_
  refine lf_aload_n d_M_gate_60 rfl rfl rfl ?_
  refine lf_iload_n d_M_gate_61 rfl rfl ?_
  refine gw_callN s_M_gate_62 (m_mustBeLine hx hN hM hn (by omega) (by omega) (by omega)) (S := []) rfl rfl (gcR_2 (c_0 hM)) (by decide) (by decide +kernel) (Nat.le_of_ble_eq_true rfl) ?_
  refine lf_aload_n d_M_gate_65 rfl rfl rfl ?_
  refine lf_iload d_M_gate_66 rfl ?_
  refine gw_callN s_M_gate_68 (m_mustBeLine hx hN hM hn (by omega) (by omega) (by omega)) (S := []) rfl rfl (gcR_2 (c_0 hM)) (by decide) (by decide +kernel) (Nat.le_of_ble_eq_true rfl) ?_
  refine lf_aload_n d_M_gate_71 rfl rfl rfl ?_
  refine gw_callN s_M_gate_72 (m_mustBeOpen hx hM) (S := []) rfl rfl (gcR_2 (c_0 hM)) (by decide) (by decide +kernel) (Nat.le_of_ble_eq_true rfl) ?_
  refine lf_aload_n d_M_gate_75 rfl rfl rfl ?_
  refine gi_getr s_M_gate_76 (c_0 hM) rfl ?_
  refine lf_iload_n d_M_gate_79 rfl rfl ?_
  refine lf_iload_n d_M_gate_80 rfl rfl ?_
  refine gw_callP s_M_gate_81 (n_fits hx hN hR (by omega)) (S := []) rfl rfl (gcR_2 (c_1 hN)) (by decide) (by decide +kernel) (Nat.le_of_ble_eq_true rfl) ?_
  refine gb_if_eq d_M_gate_84 (tgt := 100) (by decide) (fun hb84 => False.elim (by exact hb84 hfa)) (fun hb84 => ?_)
  refine lf_aload_n d_M_gate_87 rfl rfl rfl ?_
  refine gi_getr s_M_gate_88 (c_0 hM) rfl ?_
  refine lf_iload_n d_M_gate_91 rfl rfl ?_
  refine lf_iload d_M_gate_92 rfl ?_
  refine gw_callP s_M_gate_94 (n_fits hx hN hR (by omega)) (S := []) rfl rfl (gcR_2 (c_1 hN)) (by decide) (by decide +kernel) (Nat.le_of_ble_eq_true rfl) ?_
  refine gb_if_ne d_M_gate_97 (tgt := 110) (by decide) (fun hb97 => ?_) (fun hb97 => False.elim (by exact hb97 hfb))
  refine lf_aload_n d_M_gate_110 rfl rfl rfl ?_
  refine gi_getr s_M_gate_111 (c_0 hM) rfl ?_
  refine gi_geti s_M_gate_114 (c_1 hN) rfl ?_
  refine gi_top hn ?_
  refine lf_bipush d_M_gate_117 (v := Int32.ofInt ((80 : Nat) : Int)) (by decide +kernel) ?_
  refine gi_icmp_lt d_M_gate_119 (tgt := 132) (by decide) (by omega) (fun hb119 => ?_) (fun hb119 => False.elim (by omega))
  refine lf_aload_n d_M_gate_132 rfl rfl rfl ?_
  refine gi_getr s_M_gate_133 (c_0 hM) rfl ?_
  refine lf_iload_n d_M_gate_136 rfl rfl ?_
  refine lf_iload_n d_M_gate_137 rfl rfl ?_
  refine lf_iload_n d_M_gate_138 rfl rfl ?_
  refine lf_iload d_M_gate_139 rfl ?_
  refine gw_callI s_M_gate_141 (n_addGate hx hN hn hn2 (by omega)) (S := []) rfl rfl (gcR_2 (c_1 hN)) (by decide) (by decide +kernel) (Nat.le_of_ble_eq_true rfl) (fun r141 I J w141 => ?_)
  refine gw_iret d_M_gate_144 rfl ?_
  exact ⟨rfl, _, rfl, w141⟩
theorem m_gate_t1 (hx : HX X L9 xs) {t : Nat} {kd a b : Int} (ht : t < 2) (hk : kd = 121) : EVt TT cl6 X mi_M_gate 3 [.ref 0, .int (Int32.ofInt ((t : Nat) : Int)), .int (Int32.ofInt (kd)), .int (Int32.ofInt (a)), .int (Int32.ofInt (b))] sh I J "java/lang/IllegalArgumentException" := by
  refine gw_enter (hx_ok hx) (by decide +kernel) (Nat.le_of_ble_eq_true rfl) (L := [(0, _), (1, _), (2, _), (3, _), (4, _)]) rfl ?_
  refine lf_iload_n d_M_gate_0 rfl rfl ?_
  refine lf_iconst d_M_gate_1 (v := Int32.ofInt ((0 : Nat) : Int)) rfl ?_
  refine lf_iconst d_M_gate_2 (v := Int32.ofInt ((1 : Nat) : Int)) rfl ?_
  refine gw_callN s_M_gate_3 (m_mustBeWithin hx (by omega) (by omega)) (S := []) rfl rfl gcR_1 (by decide) (by decide +kernel) (Nat.le_of_ble_eq_true rfl) ?_
  refine lf_iload_n d_M_gate_6 rfl rfl ?_
  refine lf_bipush d_M_gate_7 (v := Int32.ofInt ((98 : Nat) : Int)) (by decide +kernel) ?_
  refine gi_icmp_eq d_M_gate_9 (tgt := 18) (by decide) (by omega) (fun hb9 => False.elim (by omega)) (fun hb9 => ?_)
  refine lf_iload_n d_M_gate_12 rfl rfl ?_
  refine lf_bipush d_M_gate_13 (v := Int32.ofInt ((118 : Nat) : Int)) (by decide +kernel) ?_
  refine gi_icmp_ne d_M_gate_15 (tgt := 22) (by decide) (by omega) (fun hb15 => ?_) (fun hb15 => False.elim (by omega))
  refine lf_iconst d_M_gate_22 (v := Int32.ofInt ((0 : Nat) : Int)) rfl ?_
  refine lf_istore d_M_gate_23 (by decide +kernel) (L2 := [(5, _), (0, _), (1, _), (2, _), (3, _), (4, _)]) rfl ?_
  refine lf_iload d_M_gate_25 rfl ?_
  refine gi_if_ne d_M_gate_27 (tgt := 47) (by decide) (by omega) (fun hb27 => False.elim (by omega)) (fun hb27 => ?_)
  refine lf_iload_n d_M_gate_30 rfl rfl ?_
  refine gw_callP s_M_gate_31 (m_isPairKind hx (by omega)) (S := []) rfl rfl gcR_1 (by decide) (by decide +kernel) (Nat.le_of_ble_eq_true rfl) ?_
  refine gb_if_ne d_M_gate_34 (tgt := 47) (by decide) (fun hb34 => False.elim (by omega)) (fun hb34 => ?_)
  refine gw_thr (s_M_gate_37 hx) (by decide) (Nat.le_of_ble_eq_true rfl) ?_
  exact ⟨_, _, _, rfl, rfl, rfl, rfl, rfl⟩
theorem m_gate_t2 (hx : HX X L9 xs) (hN : clN sh)  {hs : Value} (hM : clM sh hs) (hn : I 1 11 = ((0 : Nat) : Int)) {t : Nat} {kd : Int} (ht : t < 2) (hk : kd = 97) : EVt TT cl6 X mi_M_gate 3 [.ref 0, .int (Int32.ofInt ((t : Nat) : Int)), .int (Int32.ofInt (kd)), .int (Int32.ofInt ((0 : Nat) : Int)), .int (Int32.ofInt ((0 : Nat) : Int))] sh I J "java/lang/IndexOutOfBoundsException" := by
  refine gw_enter (hx_ok hx) (by decide +kernel) (Nat.le_of_ble_eq_true rfl) (L := [(0, _), (1, _), (2, _), (3, _), (4, _)]) rfl ?_
  refine lf_iload_n d_M_gate_0 rfl rfl ?_
  refine lf_iconst d_M_gate_1 (v := Int32.ofInt ((0 : Nat) : Int)) rfl ?_
  refine lf_iconst d_M_gate_2 (v := Int32.ofInt ((1 : Nat) : Int)) rfl ?_
  refine gw_callN s_M_gate_3 (m_mustBeWithin hx (by omega) (by omega)) (S := []) rfl rfl gcR_1 (by decide) (by decide +kernel) (Nat.le_of_ble_eq_true rfl) ?_
  refine lf_iload_n d_M_gate_6 rfl rfl ?_
  refine lf_bipush d_M_gate_7 (v := Int32.ofInt ((98 : Nat) : Int)) (by decide +kernel) ?_
  refine gi_icmp_eq d_M_gate_9 (tgt := 18) (by decide) (by omega) (fun hb9 => False.elim (by omega)) (fun hb9 => ?_)
  refine lf_iload_n d_M_gate_12 rfl rfl ?_
  refine lf_bipush d_M_gate_13 (v := Int32.ofInt ((118 : Nat) : Int)) (by decide +kernel) ?_
  refine gi_icmp_ne d_M_gate_15 (tgt := 22) (by decide) (by omega) (fun hb15 => ?_) (fun hb15 => False.elim (by omega))
  refine lf_iconst d_M_gate_22 (v := Int32.ofInt ((0 : Nat) : Int)) rfl ?_
  refine lf_istore d_M_gate_23 (by decide +kernel) (L2 := [(5, _), (0, _), (1, _), (2, _), (3, _), (4, _)]) rfl ?_
  refine lf_iload d_M_gate_25 rfl ?_
  refine gi_if_ne d_M_gate_27 (tgt := 47) (by decide) (by omega) (fun hb27 => False.elim (by omega)) (fun hb27 => ?_)
  refine lf_iload_n d_M_gate_30 rfl rfl ?_
  refine gw_callP s_M_gate_31 (m_isPairKind hx (by omega)) (S := []) rfl rfl gcR_1 (by decide) (by decide +kernel) (Nat.le_of_ble_eq_true rfl) ?_
  refine gb_if_ne d_M_gate_34 (tgt := 47) (by decide) (fun hb34 => ?_) (fun hb34 => False.elim (by omega))
  refine lf_iload d_M_gate_47 rfl ?_
  refine gi_if_eq d_M_gate_49 (tgt := 56) (by decide) (by omega) (fun hb49 => ?_) (fun hb49 => False.elim (by omega))
  refine lf_iload d_M_gate_56 rfl ?_
  refine lf_istore d_M_gate_58 (by decide +kernel) (L2 := [(6, _), (5, _), (0, _), (1, _), (2, _), (3, _), (4, _)]) rfl ?_
  refine lf_aload_n d_M_gate_60 rfl rfl rfl ?_
  refine lf_iload_n d_M_gate_61 rfl rfl ?_
  refine gw_callT s_M_gate_62 (m_mustBeLine_t hx hN hM hn (by omega) (by omega) (by omega)) (S := []) rfl rfl (gcR_2 (c_0 hM)) (by decide) (by decide +kernel) (Nat.le_of_ble_eq_true rfl) rfl ?_
  exact gt_out rfl ⟨rfl, rfl, rfl, rfl⟩
theorem m_data (hx : HX X L9 xs) (hN : clN sh) (hM : clM sh .null) (hR : NR I) {n t k j : Nat} (hn : I 1 11 = n) (hn2 : n ≤ 80) (hk : k < n) (hj : j < n) (hc : I 3 k = 99) (ht : I 4 k = t) (ht2 : t < 2) (hf : I 4 j = t ∨ I 4 j = 2) : EVi TT cl6 X mi_M_data 3 [.ref 0, .int (Int32.ofInt ((k : Nat) : Int)), .int (Int32.ofInt ((j : Nat) : Int))] sh I J (fun r I1 J1 => r = I 5 k ∧ I1 = ipt I 5 k j ∧ J1 = J) := by
  refine gw_enter (hx_ok hx) (by decide +kernel) (Nat.le_of_ble_eq_true rfl) (L := [(0, _), (1, _), (2, _)]) rfl ?_
  refine lf_aload_n d_M_data_0 rfl rfl rfl ?_
  refine lf_iload_n d_M_data_1 rfl rfl ?_
  refine gw_callN s_M_data_2 (m_mustBeLine hx hN hM hn hn2 (by omega) (by omega)) (S := []) rfl rfl (gcR_2 (c_0 hM)) (by decide) (by decide +kernel) (Nat.le_of_ble_eq_true rfl) ?_
  refine lf_aload_n d_M_data_5 rfl rfl rfl ?_
  refine lf_iload_n d_M_data_6 rfl rfl ?_
  refine gw_callN s_M_data_7 (m_mustBeLine hx hN hM hn hn2 (by omega) (by omega)) (S := []) rfl rfl (gcR_2 (c_0 hM)) (by decide) (by decide +kernel) (Nat.le_of_ble_eq_true rfl) ?_
  refine lf_aload_n d_M_data_10 rfl rfl rfl ?_
  refine gw_callN s_M_data_11 (m_mustBeOpen hx hM) (S := []) rfl rfl (gcR_2 (c_0 hM)) (by decide) (by decide +kernel) (Nat.le_of_ble_eq_true rfl) ?_
  refine lf_aload_n d_M_data_14 rfl rfl rfl ?_
  refine lf_iload_n d_M_data_15 rfl rfl ?_
  refine gw_callN s_M_data_16 (m_mustBeCell hx hN hM hR (by omega) hc) (S := []) rfl rfl (gcR_2 (c_0 hM)) (by decide) (by decide +kernel) (Nat.le_of_ble_eq_true rfl) ?_
  refine lf_aload_n d_M_data_19 rfl rfl rfl ?_
  refine gi_getr s_M_data_20 (c_0 hM) rfl ?_
  refine lf_aload_n d_M_data_23 rfl rfl rfl ?_
  refine gi_getr s_M_data_24 (c_0 hM) rfl ?_
  refine lf_iload_n d_M_data_27 rfl rfl ?_
  refine gw_callP s_M_data_28 (n_ownerOf hx hN (by omega)) (S := [_]) rfl rfl (gcR_2 (c_1 hN)) (by decide) (by decide +kernel) (Nat.le_of_ble_eq_true rfl) ?_
  refine gi_top ht ?_
  refine lf_iload_n d_M_data_31 rfl rfl ?_
  refine gw_callP s_M_data_32 (n_fits hx hN hR (by omega)) (S := []) rfl rfl (gcR_2 (c_1 hN)) (by decide) (by decide +kernel) (Nat.le_of_ble_eq_true rfl) ?_
  refine gb_if_ne d_M_data_35 (tgt := 48) (by decide) (fun hb35 => ?_) (fun hb35 => False.elim (by exact hb35 hf))
  refine lf_aload_n d_M_data_48 rfl rfl rfl ?_
  refine gi_getr s_M_data_49 (c_0 hM) rfl ?_
  refine lf_iload_n d_M_data_52 rfl rfl ?_
  refine lf_iload_n d_M_data_53 rfl rfl ?_
  refine gw_callI s_M_data_54 (n_changeData hx hN (by omega)) (S := []) rfl rfl (gcR_2 (c_1 hN)) (by decide) (by decide +kernel) (Nat.le_of_ble_eq_true rfl) (fun r54 I J w54 => ?_)
  refine gw_iret d_M_data_57 rfl ?_
  exact ⟨rfl, _, rfl, w54⟩
theorem m_data_t (hx : HX X L9 xs) (hN : clN sh) {hs : Value} (hM : clM sh hs) (hn : I 1 11 = ((0 : Nat) : Int)) : EVt TT cl6 X mi_M_data 3 [.ref 0, .int (Int32.ofInt ((0 : Nat) : Int)), .int (Int32.ofInt ((0 : Nat) : Int))] sh I J "java/lang/IndexOutOfBoundsException" := by
  refine gw_enter (hx_ok hx) (by decide +kernel) (Nat.le_of_ble_eq_true rfl) (L := [(0, _), (1, _), (2, _)]) rfl ?_
  refine lf_aload_n d_M_data_0 rfl rfl rfl ?_
  refine lf_iload_n d_M_data_1 rfl rfl ?_
  refine gw_callT s_M_data_2 (m_mustBeLine_t hx hN hM hn (by omega) (by omega) (by omega)) (S := []) rfl rfl (gcR_2 (c_0 hM)) (by decide) (by decide +kernel) (Nat.le_of_ble_eq_true rfl) rfl ?_
  exact gt_out rfl ⟨rfl, rfl, rfl, rfl⟩
theorem m_literal_t (hx : HX X L9 xs) (hN : clN sh) {hs : Value} (hM : clM sh hs) (hn : I 1 11 = ((0 : Nat) : Int)) : EVt TT cl6 X mi_M_literal 3 [.ref 0, .int (Int32.ofInt ((0 : Nat) : Int))] sh I J "java/lang/IndexOutOfBoundsException" := by
  refine gw_enter (hx_ok hx) (by decide +kernel) (Nat.le_of_ble_eq_true rfl) (L := [(0, _), (1, _)]) rfl ?_
  refine lf_aload_n d_M_literal_0 rfl rfl rfl ?_
  refine lf_iload_n d_M_literal_1 rfl rfl ?_
  refine gw_callT s_M_literal_2 (m_mustBeLine_t hx hN hM hn (by omega) (by omega) (by omega)) (S := []) rfl rfl (gcR_2 (c_0 hM)) (by decide) (by decide +kernel) (Nat.le_of_ble_eq_true rfl) rfl ?_
  exact gt_out rfl ⟨rfl, rfl, rfl, rfl⟩
theorem m_output (hx : HX X L9 xs) (hN : clN sh) (hM : clM sh .null) (hR : NR I) {n t c j : Nat} (hn : I 1 11 = n) (hn2 : n ≤ 80) (ht : t < 2) (hj : j < n) (hf : I 4 j = t ∨ I 4 j = 2) (hc : I 10 t = c) (hc4 : c < 4) : EVi TT cl6 X mi_M_output 3 [.ref 0, .int (Int32.ofInt ((t : Nat) : Int)), .int (Int32.ofInt ((j : Nat) : Int))] sh I J (fun r I1 J1 => r = c ∧ I1 = ipt (ipt I 9 (t * 4 + c) j) 10 t ((c + 1 : Nat) : Int) ∧ J1 = J) := by
  refine gw_enter (hx_ok hx) (by decide +kernel) (Nat.le_of_ble_eq_true rfl) (L := [(0, _), (1, _), (2, _)]) rfl ?_
  refine lf_iload_n d_M_output_0 rfl rfl ?_
  refine lf_iconst d_M_output_1 (v := Int32.ofInt ((0 : Nat) : Int)) rfl ?_
  refine lf_iconst d_M_output_2 (v := Int32.ofInt ((1 : Nat) : Int)) rfl ?_
  refine gw_callN s_M_output_3 (m_mustBeWithin hx (by omega) (by omega)) (S := []) rfl rfl gcR_1 (by decide) (by decide +kernel) (Nat.le_of_ble_eq_true rfl) ?_
  refine lf_aload_n d_M_output_6 rfl rfl rfl ?_
  refine lf_iload_n d_M_output_7 rfl rfl ?_
  refine gw_callN s_M_output_8 (m_mustBeLine hx hN hM hn hn2 (by omega) (by omega)) (S := []) rfl rfl (gcR_2 (c_0 hM)) (by decide) (by decide +kernel) (Nat.le_of_ble_eq_true rfl) ?_
  refine lf_aload_n d_M_output_11 rfl rfl rfl ?_
  refine gw_callN s_M_output_12 (m_mustBeOpen hx hM) (S := []) rfl rfl (gcR_2 (c_0 hM)) (by decide) (by decide +kernel) (Nat.le_of_ble_eq_true rfl) ?_
  refine lf_aload_n d_M_output_15 rfl rfl rfl ?_
  refine gi_getr s_M_output_16 (c_0 hM) rfl ?_
  refine lf_iload_n d_M_output_19 rfl rfl ?_
  refine lf_iload_n d_M_output_20 rfl rfl ?_
  refine gw_callP s_M_output_21 (n_fits hx hN hR (by omega)) (S := []) rfl rfl (gcR_2 (c_1 hN)) (by decide) (by decide +kernel) (Nat.le_of_ble_eq_true rfl) ?_
  refine gb_if_ne d_M_output_24 (tgt := 37) (by decide) (fun hb24 => ?_) (fun hb24 => False.elim (by exact hb24 hf))
  refine lf_aload_n d_M_output_37 rfl rfl rfl ?_
  refine gi_getr s_M_output_38 (c_0 hM) rfl ?_
  refine lf_iload_n d_M_output_41 rfl rfl ?_
  refine gw_callP s_M_output_42 (n_outputsOf hx hN (by omega)) (S := []) rfl rfl (gcR_2 (c_1 hN)) (by decide) (by decide +kernel) (Nat.le_of_ble_eq_true rfl) ?_
  refine gi_top hc ?_
  refine lf_iconst d_M_output_45 (v := Int32.ofInt ((4 : Nat) : Int)) rfl ?_
  refine gi_icmp_lt d_M_output_46 (tgt := 59) (by decide) (by omega) (fun hb46 => ?_) (fun hb46 => False.elim (by omega))
  refine lf_aload_n d_M_output_59 rfl rfl rfl ?_
  refine gi_getr s_M_output_60 (c_0 hM) rfl ?_
  refine lf_iload_n d_M_output_63 rfl rfl ?_
  refine lf_iload_n d_M_output_64 rfl rfl ?_
  refine gw_callI s_M_output_65 (n_addOutput hx hN ht hc hc4) (S := []) rfl rfl (gcR_2 (c_1 hN)) (by decide) (by decide +kernel) (Nat.le_of_ble_eq_true rfl) (fun r65 I J w65 => ?_)
  refine gw_iret d_M_output_68 rfl ?_
  exact ⟨rfl, _, rfl, w65⟩
theorem m_output_t1 (hx : HX X L9 xs) {z j : Int} (hz : z = 2) : EVt TT cl6 X mi_M_output 3 [.ref 0, .int (Int32.ofInt (z)), .int (Int32.ofInt (j))] sh I J "java/lang/IllegalArgumentException" := by
  refine gw_enter (hx_ok hx) (by decide +kernel) (Nat.le_of_ble_eq_true rfl) (L := [(0, _), (1, _), (2, _)]) rfl ?_
  refine lf_iload_n d_M_output_0 rfl rfl ?_
  refine lf_iconst d_M_output_1 (v := Int32.ofInt ((0 : Nat) : Int)) rfl ?_
  refine lf_iconst d_M_output_2 (v := Int32.ofInt ((1 : Nat) : Int)) rfl ?_
  refine gw_callT s_M_output_3 (m_mustBeWithin_t hx (by omega) (by omega)) (S := []) rfl rfl gcR_1 (by decide) (by decide +kernel) (Nat.le_of_ble_eq_true rfl) rfl ?_
  exact gt_out rfl ⟨rfl, rfl, rfl, rfl⟩
theorem m_output_t2 (hx : HX X L9 xs) (hN : clN sh) {hs : Value} (hM : clM sh hs) (hn : I 1 11 = ((0 : Nat) : Int)) {t : Nat} (ht : t < 2) : EVt TT cl6 X mi_M_output 3 [.ref 0, .int (Int32.ofInt ((t : Nat) : Int)), .int (Int32.ofInt ((0 : Nat) : Int))] sh I J "java/lang/IndexOutOfBoundsException" := by
  refine gw_enter (hx_ok hx) (by decide +kernel) (Nat.le_of_ble_eq_true rfl) (L := [(0, _), (1, _), (2, _)]) rfl ?_
  refine lf_iload_n d_M_output_0 rfl rfl ?_
  refine lf_iconst d_M_output_1 (v := Int32.ofInt ((0 : Nat) : Int)) rfl ?_
  refine lf_iconst d_M_output_2 (v := Int32.ofInt ((1 : Nat) : Int)) rfl ?_
  refine gw_callN s_M_output_3 (m_mustBeWithin hx (by omega) (by omega)) (S := []) rfl rfl gcR_1 (by decide) (by decide +kernel) (Nat.le_of_ble_eq_true rfl) ?_
  refine lf_aload_n d_M_output_6 rfl rfl rfl ?_
  refine lf_iload_n d_M_output_7 rfl rfl ?_
  refine gw_callT s_M_output_8 (m_mustBeLine_t hx hN hM hn (by omega) (by omega) (by omega)) (S := []) rfl rfl (gcR_2 (c_0 hM)) (by decide) (by decide +kernel) (Nat.le_of_ble_eq_true rfl) rfl ?_
  exact gt_out rfl ⟨rfl, rfl, rfl, rfl⟩
theorem m_close_t (hx : HX X L9 xs)(hM : clM sh (.ref 14)) : EVt TT cl6 X mi_M_close 4 [.ref 0] sh I J "java/lang/UnsupportedOperationException" := by
  refine gw_enter (hx_ok hx) (by decide +kernel) (Nat.le_of_ble_eq_true rfl) (L := [(0, _)]) rfl ?_
  refine lf_aload_n d_M_close_0 rfl rfl rfl ?_
  refine gw_callT s_M_close_1 (m_mustBeOpen_t hx hM) (S := []) rfl rfl (gcR_2 (c_0 hM)) (by decide) (by decide +kernel) (Nat.le_of_ble_eq_true rfl) rfl ?_
  exact gt_out rfl ⟨rfl, rfl, rfl, rfl⟩
theorem m_close_t2 (hx : HX X L9 xs) (hN : clN sh) (hM : clM sh .null)(hR : NR I) (h59 : ∀ k, -2147483648 ≤ I 5 k ∧ I 5 k < 2147483648) (hO : ∀ k, 0 ≤ I 10 k ∧ I 10 k ≤ 4) {n : Nat} (hn : I 1 11 = n) (hn2 : n ≤ 80) (hb : (∃ k, k < n ∧ I 3 k = 99 ∧ I 5 k < 0) ∨ I 10 0 < 1) : EVt TT cl6 X mi_M_close 4 [.ref 0] sh I J "java/lang/UnsupportedOperationException" := by
  refine gw_enter (hx_ok hx) (by decide +kernel) (Nat.le_of_ble_eq_true rfl) (L := [(0, _)]) rfl ?_
  refine lf_aload_n d_M_close_0 rfl rfl rfl ?_
  refine gw_callN s_M_close_1 (m_mustBeOpen hx hM) (S := []) rfl rfl (gcR_2 (c_0 hM)) (by decide) (by decide +kernel) (Nat.le_of_ble_eq_true rfl) ?_
  refine lf_aload_n d_M_close_4 rfl rfl rfl ?_
  refine gi_getr s_M_close_5 (c_0 hM) rfl ?_
  refine gw_callP s_M_close_8 (n_canBeClosed hx hN hR h59 hO hn hn2 (b := 0) (Or.inr ⟨rfl, hb⟩)) (S := []) rfl rfl (gcR_2 (c_1 hN)) (by decide) (by decide +kernel) (Nat.le_of_ble_eq_true rfl) ?_
  refine gi_if_ne d_M_close_11 (tgt := 24) (by decide) (by omega) (fun hb11 => False.elim (by omega)) (fun hb11 => ?_)
  refine gw_thr (s_M_close_14 hx) (by decide) (Nat.le_of_ble_eq_true rfl) ?_
  exact ⟨_, _, _, rfl, rfl, rfl, rfl, rfl⟩
theorem m_ands_t (hx : HX X L9 xs)(hM : clM sh .null) : EVt TT cl6 X mi_M_ands 3 [.ref 0] sh I J "java/lang/UnsupportedOperationException" := by
  refine gw_enter (hx_ok hx) (by decide +kernel) (Nat.le_of_ble_eq_true rfl) (L := [(0, _)]) rfl ?_
  refine lf_aload_n d_M_ands_0 rfl rfl rfl ?_
  refine gw_callT s_M_ands_1 (m_mustBeClosed_t hx hM) (S := []) rfl rfl (gcR_2 (c_0 hM)) (by decide) (by decide +kernel) (Nat.le_of_ble_eq_true rfl) rfl ?_
  exact gt_out rfl ⟨rfl, rfl, rfl, rfl⟩
theorem m_reached_t (hx : HX X L9 xs)(hM : clM sh .null) : EVt TT cl6 X mi_M_reached 3 [.ref 0] sh I J "java/lang/UnsupportedOperationException" := by
  refine gw_enter (hx_ok hx) (by decide +kernel) (Nat.le_of_ble_eq_true rfl) (L := [(0, _)]) rfl ?_
  refine lf_aload_n d_M_reached_0 rfl rfl rfl ?_
  refine gw_callT s_M_reached_1 (m_mustBeClosed_t hx hM) (S := []) rfl rfl (gcR_2 (c_0 hM)) (by decide) (by decide +kernel) (Nat.le_of_ble_eq_true rfl) rfl ?_
  exact gt_out rfl ⟨rfl, rfl, rfl, rfl⟩
theorem m_sweep_t1 (hx : HX X L9 xs) {z : Int} (hz : z = 0) : EVt TT cl6 X mi_M_sweep 3 [.ref 0, .int (Int32.ofInt (z))] sh I J "java/lang/IllegalArgumentException" := by
  refine gw_enter (hx_ok hx) (by decide +kernel) (Nat.le_of_ble_eq_true rfl) (L := [(0, _), (1, _)]) rfl ?_
  refine lf_iload_n d_M_sweep_0 rfl rfl ?_
  refine lf_iconst d_M_sweep_1 (v := Int32.ofInt ((1 : Nat) : Int)) rfl ?_
  refine lf_sipush d_M_sweep_2 (v := Int32.ofInt ((20000 : Nat) : Int)) (by decide +kernel) ?_
  refine gw_callT s_M_sweep_5 (m_mustBeWithin_t hx (by omega) (by omega)) (S := []) rfl rfl gcR_1 (by decide) (by decide +kernel) (Nat.le_of_ble_eq_true rfl) rfl ?_
  exact gt_out rfl ⟨rfl, rfl, rfl, rfl⟩
theorem m_sweep_t2 (hx : HX X L9 xs)(hM : clM sh .null) {z : Int} (hz : z = 1) : EVt TT cl6 X mi_M_sweep 3 [.ref 0, .int (Int32.ofInt (z))] sh I J "java/lang/UnsupportedOperationException" := by
  refine gw_enter (hx_ok hx) (by decide +kernel) (Nat.le_of_ble_eq_true rfl) (L := [(0, _), (1, _)]) rfl ?_
  refine lf_iload_n d_M_sweep_0 rfl rfl ?_
  refine lf_iconst d_M_sweep_1 (v := Int32.ofInt ((1 : Nat) : Int)) rfl ?_
  refine lf_sipush d_M_sweep_2 (v := Int32.ofInt ((20000 : Nat) : Int)) (by decide +kernel) ?_
  refine gw_callN s_M_sweep_5 (m_mustBeWithin hx (by omega) (by omega)) (S := []) rfl rfl gcR_1 (by decide) (by decide +kernel) (Nat.le_of_ble_eq_true rfl) ?_
  refine lf_aload_n d_M_sweep_8 rfl rfl rfl ?_
  refine gw_callT s_M_sweep_9 (m_mustBeClosed_t hx hM) (S := []) rfl rfl (gcR_2 (c_0 hM)) (by decide) (by decide +kernel) (Nat.le_of_ble_eq_true rfl) rfl ?_
  exact gt_out rfl ⟨rfl, rfl, rfl, rfl⟩
theorem m_lines (hx : HX X L9 xs) (hN : clN sh) {hs : Value} (hM : clM sh hs) : EVp TT cl6 X mi_M_lines 0 [.ref 0] sh I J (.int (Int32.ofInt (I 1 11))) := by
  refine gw_enter (hx_ok hx) (by decide +kernel) (Nat.le_of_ble_eq_true rfl) (L := [(0, _)]) rfl ?_
  refine lf_aload_n d_M_lines_0 rfl rfl rfl ?_
  refine gi_getr s_M_lines_1 (c_0 hM) rfl ?_
  refine gi_geti s_M_lines_4 (c_1 hN) rfl ?_
  refine gw_iret d_M_lines_7 rfl ?_
  exact ⟨rfl, rfl, rfl, rfl⟩
end MT1
