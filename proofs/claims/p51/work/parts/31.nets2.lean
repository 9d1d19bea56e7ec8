section NT2
variable {X : XT} {L9 : Nat} {xs : Nat → Int32} {sh : sM} {I : mI} {J : mJ}

variable {D : mF} {P : Option Value → mF → Prop} {PX : String → mF → Prop} {kc ks : Nat}

theorem n_addLine (hx : HX X L9 xs) (hN : clN sh) {n : Nat} (hn : I 1 11 = n) (hn2 : n < 80) {ow kd on tw : Int} (hk : 0 ≤ kd ∧ kd < 65536) : EVi TT cl6 X mi_N_addLine 1 [.ref 1, .int (Int32.ofInt (ow)), .int (Int32.ofInt (kd)), .int (Int32.ofInt (on)), .int (Int32.ofInt (tw))] sh I J (fun r I1 J1 => r = n ∧ I1 = ipt (ipt (ipt (ipt (ipt I 3 n kd) 4 n ow) 5 n on) 6 n tw) 1 11 ((n : Int) + 1) ∧ J1 = J) := by
  refine gw_enter (hx_ok hx) (by decide +kernel) (Nat.le_of_ble_eq_true rfl) (L := [(0, _), (1, _), (2, _), (3, _), (4, _)]) rfl ?_
  refine lf_aload_n d_N_addLine_0 rfl rfl rfl ?_
  refine gi_geti s_N_addLine_1 (c_1 hN) rfl ?_
  refine gi_top hn ?_
  refine lf_istore d_N_addLine_4 (by decide +kernel) (L2 := [(5, _), (0, _), (1, _), (2, _), (3, _), (4, _)]) rfl ?_
  refine lf_iload d_N_addLine_6 rfl ?_
  refine lf_aload_n d_N_addLine_8 rfl rfl rfl ?_
  refine gi_getr s_N_addLine_9 (c_1 hN) rfl ?_
  refine gi_len d_N_addLine_12 (c_3 hN) ?_
  refine gi_icmp_ge d_N_addLine_13 (tgt := 24) (by decide) (by omega) (fun hb13 => False.elim (by omega)) (fun hb13 => ?_)
  refine lf_aload_n d_N_addLine_16 rfl rfl rfl ?_
  refine gi_getr s_N_addLine_17 (c_1 hN) rfl ?_
  refine lf_iload d_N_addLine_20 rfl ?_
  refine lf_iload_n d_N_addLine_22 rfl rfl ?_
  refine gi_castoreN d_N_addLine_23 (c_3 hN) (by omega) (by omega) ?_
  refine lf_aload_n d_N_addLine_24 rfl rfl rfl ?_
  refine gi_getr s_N_addLine_25 (c_1 hN) rfl ?_
  refine lf_iload d_N_addLine_28 rfl ?_
  refine lf_iload_n d_N_addLine_30 rfl rfl ?_
  refine gw_callV s_N_addLine_31 (m_putNumberN hx (c_4 hN) (by omega)) (S := []) rfl rfl gcR_4 (by decide) (by decide +kernel) (Nat.le_of_ble_eq_true rfl) (fun I J w31 => ?_)
  obtain ⟨rfl, rfl⟩ := w31
  refine lf_aload_n d_N_addLine_34 rfl rfl rfl ?_
  refine gi_getr s_N_addLine_35 (c_1 hN) rfl ?_
  refine lf_iload d_N_addLine_38 rfl ?_
  refine lf_iload_n d_N_addLine_40 rfl rfl ?_
  refine gw_callV s_N_addLine_41 (m_putNumberN hx (c_5 hN) (by omega)) (S := []) rfl rfl gcR_4 (by decide) (by decide +kernel) (Nat.le_of_ble_eq_true rfl) (fun I J w41 => ?_)
  obtain ⟨rfl, rfl⟩ := w41
  refine lf_aload_n d_N_addLine_44 rfl rfl rfl ?_
  refine gi_getr s_N_addLine_45 (c_1 hN) rfl ?_
  refine lf_iload d_N_addLine_48 rfl ?_
  refine lf_iload d_N_addLine_50 rfl ?_
  refine gw_callV s_N_addLine_52 (m_putNumberN hx (c_6 hN) (by omega)) (S := []) rfl rfl gcR_4 (by decide) (by decide +kernel) (Nat.le_of_ble_eq_true rfl) (fun I J w52 => ?_)
  obtain ⟨rfl, rfl⟩ := w52
  refine lf_aload_n d_N_addLine_55 rfl rfl rfl ?_
  refine lf_iload d_N_addLine_56 rfl ?_
  refine lf_iconst d_N_addLine_58 (v := Int32.ofInt ((1 : Nat) : Int)) rfl ?_
  refine gi_iaddN (a := n) (b := 1) d_N_addLine_59 ?_
  refine gi_puti s_N_addLine_60 (c_1 hN) rfl ?_
  refine lf_iload d_N_addLine_63 rfl ?_
  refine gw_iret d_N_addLine_65 rfl ?_
  exact ⟨rfl, _, rfl, rfl, rfl, rfl⟩
theorem n_addGate (hx : HX X L9 xs) (hN : clN sh) {n : Nat} (hn : I 1 11 = n) (hn2 : n < 80) {ow kd on tw : Int} (hk : 0 ≤ kd ∧ kd < 65536) : EVi TT cl6 X mi_N_addGate 2 [.ref 1, .int (Int32.ofInt (ow)), .int (Int32.ofInt (kd)), .int (Int32.ofInt (on)), .int (Int32.ofInt (tw))] sh I J (fun r I1 J1 => r = n ∧ I1 = ipt (ipt (ipt (ipt (ipt I 3 n kd) 4 n ow) 5 n on) 6 n tw) 1 11 ((n : Int) + 1) ∧ J1 = J) := by
  refine gw_enter (hx_ok hx) (by decide +kernel) (Nat.le_of_ble_eq_true rfl) (L := [(0, _), (1, _), (2, _), (3, _), (4, _)]) rfl ?_
  refine lf_aload_n d_N_addGate_0 rfl rfl rfl ?_
  refine lf_iload_n d_N_addGate_1 rfl rfl ?_
  refine lf_iload_n d_N_addGate_2 rfl rfl ?_
  refine lf_iload_n d_N_addGate_3 rfl rfl ?_
  refine lf_iload d_N_addGate_4 rfl ?_
  refine gw_callI s_N_addGate_6 (n_addLine hx hN hn (by omega) (by omega)) (S := []) rfl rfl (gcR_2 (c_1 hN)) (by decide) (by decide +kernel) (Nat.le_of_ble_eq_true rfl) (fun r6 I J w6 => ?_)
  refine gw_iret d_N_addGate_9 rfl ?_
  exact ⟨rfl, _, rfl, w6⟩
theorem n_addInput (hx : HX X L9 xs) (hN : clN sh) {n m : Nat} (hn : I 1 11 = n) (hn2 : n < 80) (hm : I 1 12 = m) : EVi TT cl6 X mi_N_addInput 2 [.ref 1] sh I J (fun r I1 J1 => r = n ∧ I1 = ipt (ipt (ipt (ipt (ipt (ipt I 1 12 ((m + 1 : Nat) : Int)) 3 n 105) 4 n 2) 5 n (-1)) 6 n (-1)) 1 11 ((n : Int) + 1) ∧ J1 = J) := by
  refine gw_enter (hx_ok hx) (by decide +kernel) (Nat.le_of_ble_eq_true rfl) (L := [(0, _)]) rfl ?_
  refine lf_aload_n d_N_addInput_0 rfl rfl rfl ?_
  refine lf_dup d_N_addInput_1 rfl ?_
  refine gi_geti s_N_addInput_2 (c_1 hN) rfl ?_
  refine gi_top hm ?_
  refine lf_iconst d_N_addInput_5 (v := Int32.ofInt ((1 : Nat) : Int)) rfl ?_
  refine gi_iaddN (a := m) (b := 1) d_N_addInput_6 ?_
  refine gi_puti s_N_addInput_7 (c_1 hN) rfl ?_
  refine lf_aload_n d_N_addInput_10 rfl rfl rfl ?_
  refine lf_iconst d_N_addInput_11 (v := Int32.ofInt ((2 : Nat) : Int)) rfl ?_
  refine lf_bipush d_N_addInput_12 (v := Int32.ofInt ((105 : Nat) : Int)) (by decide +kernel) ?_
  refine lf_iconst d_N_addInput_14 (v := Int32.ofInt (-1)) rfl ?_
  refine lf_iconst d_N_addInput_15 (v := Int32.ofInt (-1)) rfl ?_
  refine gw_callI s_N_addInput_16 (n_addLine hx hN (n := n) ((ipt_s.trans (if_neg (by decide))).trans hn) (by omega) (by omega)) (S := []) rfl rfl (gcR_2 (c_1 hN)) (by decide) (by decide +kernel) (Nat.le_of_ble_eq_true rfl) (fun r16 I J w16 => ?_)
  refine gw_iret d_N_addInput_19 rfl ?_
  exact ⟨rfl, _, rfl, w16⟩
theorem n_addCell (hx : HX X L9 xs) (hN : clN sh) {n t c : Nat} (hn : I 1 11 = n) (hn2 : n < 80) (ht : t < 2) (hc : I 11 t = c) {fi na : Int} : EVi TT cl6 X mi_N_addCell 2 [.ref 1, .int (Int32.ofInt ((t : Nat) : Int)), .int (Int32.ofInt (fi)), .int (Int32.ofInt (na))] sh I J (fun r I1 J1 => r = n ∧ I1 = ipt (ipt (ipt (ipt (ipt (ipt (ipt (ipt I 7 n fi) 8 n na) 11 t ((c + 1 : Nat) : Int)) 3 n 99) 4 n t) 5 n (-1)) 6 n (-1)) 1 11 ((n : Int) + 1) ∧ J1 = J) := by
  refine gw_enter (hx_ok hx) (by decide +kernel) (Nat.le_of_ble_eq_true rfl) (L := [(0, _), (1, _), (2, _), (3, _)]) rfl ?_
  refine lf_aload_n d_N_addCell_0 rfl rfl rfl ?_
  refine gi_getr s_N_addCell_1 (c_1 hN) rfl ?_
  refine lf_aload_n d_N_addCell_4 rfl rfl rfl ?_
  refine gi_geti s_N_addCell_5 (c_1 hN) rfl ?_
  refine gi_top hn ?_
  refine lf_iload_n d_N_addCell_8 rfl rfl ?_
  refine gw_callV s_N_addCell_9 (m_putNumberN hx (c_7 hN) (by omega)) (S := []) rfl rfl gcR_4 (by decide) (by decide +kernel) (Nat.le_of_ble_eq_true rfl) (fun I J w9 => ?_)
  obtain ⟨rfl, rfl⟩ := w9
  refine lf_aload_n d_N_addCell_12 rfl rfl rfl ?_
  refine gi_getr s_N_addCell_13 (c_1 hN) rfl ?_
  refine lf_aload_n d_N_addCell_16 rfl rfl rfl ?_
  refine gi_geti s_N_addCell_17 (c_1 hN) rfl ?_
  refine gi_top (show ipt I 7 n fi 1 11 = (n : Int) from hn) ?_
  refine lf_iload_n d_N_addCell_20 rfl rfl ?_
  refine gw_callV s_N_addCell_21 (m_putNumberN hx (c_8 hN) (by omega)) (S := []) rfl rfl gcR_4 (by decide) (by decide +kernel) (Nat.le_of_ble_eq_true rfl) (fun I J w21 => ?_)
  obtain ⟨rfl, rfl⟩ := w21
  refine lf_aload_n d_N_addCell_24 rfl rfl rfl ?_
  refine gi_getr s_N_addCell_25 (c_1 hN) rfl ?_
  refine lf_iload_n d_N_addCell_28 rfl rfl ?_
  refine lf_aload_n d_N_addCell_29 rfl rfl rfl ?_
  refine lf_iload_n d_N_addCell_30 rfl rfl ?_
  refine gw_callP s_N_addCell_31 (n_cellsOf hx hN (by omega)) (S := [_, _]) rfl rfl (gcR_2 (c_1 hN)) (by decide) (by decide +kernel) (Nat.le_of_ble_eq_true rfl) ?_
  refine gi_top (show ipt (ipt I 7 n fi) 8 n na 11 t = (c : Int) from hc) ?_
  refine lf_iconst d_N_addCell_34 (v := Int32.ofInt ((1 : Nat) : Int)) rfl ?_
  refine gi_iaddN (a := c) (b := 1) d_N_addCell_35 ?_
  refine gw_callV s_N_addCell_36 (m_putNumberN hx (c_11 hN) (by omega)) (S := []) rfl rfl gcR_4 (by decide) (by decide +kernel) (Nat.le_of_ble_eq_true rfl) (fun I J w36 => ?_)
  obtain ⟨rfl, rfl⟩ := w36
  refine lf_aload_n d_N_addCell_39 rfl rfl rfl ?_
  refine lf_iload_n d_N_addCell_40 rfl rfl ?_
  refine lf_bipush d_N_addCell_41 (v := Int32.ofInt ((99 : Nat) : Int)) (by decide +kernel) ?_
  refine lf_iconst d_N_addCell_43 (v := Int32.ofInt (-1)) rfl ?_
  refine lf_iconst d_N_addCell_44 (v := Int32.ofInt (-1)) rfl ?_
  refine gw_callI s_N_addCell_45 (n_addLine hx hN (n := n) (show ipt (ipt (ipt I 7 n fi) 8 n na) 11 t _ 1 11 = (n : Int) from hn) (by omega) (by omega)) (S := []) rfl rfl (gcR_2 (c_1 hN)) (by decide) (by decide +kernel) (Nat.le_of_ble_eq_true rfl) (fun r45 I J w45 => ?_)
  refine gw_iret d_N_addCell_48 rfl ?_
  exact ⟨rfl, _, rfl, w45⟩
theorem n_changeData (hx : HX X L9 xs) (hN : clN sh) {k : Nat} (hk : k < 80) {x : Int} : EVi TT cl6 X mi_N_changeData 2 [.ref 1, .int (Int32.ofInt ((k : Nat) : Int)), .int (Int32.ofInt (x))] sh I J (fun r I1 J1 => r = I 5 k ∧ I1 = ipt I 5 k x ∧ J1 = J) := by
  refine gw_enter (hx_ok hx) (by decide +kernel) (Nat.le_of_ble_eq_true rfl) (L := [(0, _), (1, _), (2, _)]) rfl ?_
  refine lf_aload_n d_N_changeData_0 rfl rfl rfl ?_
  refine lf_iload_n d_N_changeData_1 rfl rfl ?_
  refine gw_callP s_N_changeData_2 (n_dataOf hx hN (by omega)) (S := []) rfl rfl (gcR_2 (c_1 hN)) (by decide) (by decide +kernel) (Nat.le_of_ble_eq_true rfl) ?_
  refine lf_istore_n d_N_changeData_5 rfl (by decide +kernel) (L2 := [(3, _), (0, _), (1, _), (2, _)]) rfl ?_
  refine lf_aload_n d_N_changeData_6 rfl rfl rfl ?_
  refine gi_getr s_N_changeData_7 (c_1 hN) rfl ?_
  refine lf_iload_n d_N_changeData_10 rfl rfl ?_
  refine lf_iload_n d_N_changeData_11 rfl rfl ?_
  refine gw_callV s_N_changeData_12 (m_putNumberN hx (c_5 hN) (by omega)) (S := []) rfl rfl gcR_4 (by decide) (by decide +kernel) (Nat.le_of_ble_eq_true rfl) (fun I J w12 => ?_)
  obtain ⟨rfl, rfl⟩ := w12
  refine lf_iload_n d_N_changeData_15 rfl rfl ?_
  refine gw_iret d_N_changeData_16 rfl ?_
  exact ⟨rfl, _, rfl, rfl, rfl, rfl⟩
theorem n_addOutput (hx : HX X L9 xs) (hN : clN sh) {t c : Nat} (ht : t < 2) (hc : I 10 t = c) (hc4 : c < 4) {x : Int} : EVi TT cl6 X mi_N_addOutput 2 [.ref 1, .int (Int32.ofInt ((t : Nat) : Int)), .int (Int32.ofInt (x))] sh I J (fun r I1 J1 => r = c ∧ I1 = ipt (ipt I 9 (t * 4 + c) x) 10 t ((c + 1 : Nat) : Int) ∧ J1 = J) := by
  refine gw_enter (hx_ok hx) (by decide +kernel) (Nat.le_of_ble_eq_true rfl) (L := [(0, _), (1, _), (2, _)]) rfl ?_
  refine lf_aload_n d_N_addOutput_0 rfl rfl rfl ?_
  refine lf_iload_n d_N_addOutput_1 rfl rfl ?_
  refine gw_callP s_N_addOutput_2 (n_outputsOf hx hN (by omega)) (S := []) rfl rfl (gcR_2 (c_1 hN)) (by decide) (by decide +kernel) (Nat.le_of_ble_eq_true rfl) ?_
  refine gi_top hc ?_
  refine lf_istore_n d_N_addOutput_5 rfl (by decide +kernel) (L2 := [(3, _), (0, _), (1, _), (2, _)]) rfl ?_
  refine lf_aload_n d_N_addOutput_6 rfl rfl rfl ?_
  refine gi_getr s_N_addOutput_7 (c_1 hN) rfl ?_
  refine lf_iload_n d_N_addOutput_10 rfl rfl ?_
  refine lf_iconst d_N_addOutput_11 (v := Int32.ofInt ((4 : Nat) : Int)) rfl ?_
  refine gi_imulN (a := t) (b := 4) d_N_addOutput_12 ?_
  refine lf_iload_n d_N_addOutput_13 rfl rfl ?_
  refine gi_iaddN (a := (t * 4)) (b := c) d_N_addOutput_14 ?_
  refine lf_iload_n d_N_addOutput_15 rfl rfl ?_
  refine gw_callV s_N_addOutput_16 (m_putNumberN hx (c_9 hN) (by omega)) (S := []) rfl rfl gcR_4 (by decide) (by decide +kernel) (Nat.le_of_ble_eq_true rfl) (fun I J w16 => ?_)
  obtain ⟨rfl, rfl⟩ := w16
  refine lf_aload_n d_N_addOutput_19 rfl rfl rfl ?_
  refine gi_getr s_N_addOutput_20 (c_1 hN) rfl ?_
  refine lf_iload_n d_N_addOutput_23 rfl rfl ?_
  refine lf_iload_n d_N_addOutput_24 rfl rfl ?_
  refine lf_iconst d_N_addOutput_25 (v := Int32.ofInt ((1 : Nat) : Int)) rfl ?_
  refine gi_iaddN (a := c) (b := 1) d_N_addOutput_26 ?_
  refine gw_callV s_N_addOutput_27 (m_putNumberN hx (c_10 hN) (by omega)) (S := []) rfl rfl gcR_4 (by decide) (by decide +kernel) (Nat.le_of_ble_eq_true rfl) (fun I J w27 => ?_)
  obtain ⟨rfl, rfl⟩ := w27
  refine lf_iload_n d_N_addOutput_30 rfl rfl ?_
  refine gw_iret d_N_addOutput_31 rfl ?_
  exact ⟨rfl, _, rfl, rfl, rfl, rfl⟩
theorem n_cellNamed_l (hx : HX X L9 xs) (hN : clN sh) (hR : NR I) (hna9 : ∀ k, -2147483648 ≤ I 8 k ∧ I 8 k < 2147483648) {n : Nat} (hn : I 1 11 = n) (hn2 : n ≤ 80) {t na : Int} (ht : 0 ≤ t ∧ t ≤ 2) (hna : 0 ≤ na ∧ na ≤ 9) (hno : ∀ k, k < n → ¬ (I 3 k = 99 ∧ I 4 k = t ∧ I 8 k = na)) (k44 : LXf TT cl6 X mi_N_cellNamed (40 + 2) (1000 + 200 * 2) D P PX kc ks 44 [(3, .int (Int32.ofInt ((n : Nat) : Int))), (0, .ref 1), (1, .int (Int32.ofInt (t))), (2, .int (Int32.ofInt (na)))] [] (hp sh I J)) : ∀ c k : Nat, k + c = n → LXf TT cl6 X mi_N_cellNamed (40 + 2) (1000 + 200 * 2) D P PX kc ks 2 [(3, .int (Int32.ofInt ((k : Nat) : Int))), (0, .ref 1), (1, .int (Int32.ofInt (t))), (2, .int (Int32.ofInt (na)))] [] (hp sh I J) := by
  intro c
  induction c with
  | zero =>
    intro k hk
    obtain rfl : k = n := by omega
    refine lf_iload_n d_N_cellNamed_2 rfl rfl ?_
    refine lf_aload_n d_N_cellNamed_3 rfl rfl rfl ?_
    refine gi_geti s_N_cellNamed_4 (c_1 hN) rfl ?_
    refine gi_top hn ?_
    refine gi_icmp_ge d_N_cellNamed_7 (tgt := 44) (by decide) (by omega) (fun hb7 => ?_) (fun hb7 => False.elim (by omega))
    exact k44
  | succ c ih =>
    intro k hk
    have h4 := hR.2 k
    have h8 := hna9 k
    have hno := hno k (by omega)
    refine lf_iload_n d_N_cellNamed_2 rfl rfl ?_
    refine lf_aload_n d_N_cellNamed_3 rfl rfl rfl ?_
    refine gi_geti s_N_cellNamed_4 (c_1 hN) rfl ?_
    refine gi_top hn ?_
    refine gi_icmp_ge d_N_cellNamed_7 (tgt := 44) (by decide) (by omega) (fun hb7 => False.elim (by omega)) (fun hb7 => ?_)
    refine lf_aload_n d_N_cellNamed_10 rfl rfl rfl ?_
    refine lf_iload_n d_N_cellNamed_11 rfl rfl ?_
    refine gw_callP s_N_cellNamed_12 (n_isCell hx hN hR (by omega)) (S := []) rfl rfl (gcR_2 (c_1 hN)) (by decide) (by decide +kernel) (Nat.le_of_ble_eq_true rfl) ?_
    refine gb_if_eq d_N_cellNamed_15 (tgt := 38) (by decide) (fun hb15 => ?_) (fun hb15 => ?_)
    · refine gi_iincN d_N_cellNamed_38 rfl (by decide +kernel) (L2 := [(3, _), (0, _), (1, _), (2, _)]) rfl ?_
      refine lf_goto d_N_cellNamed_41 (tgt := 2) (by decide) ?_
      exact ih (k + 1) (by omega)
    · refine lf_aload_n d_N_cellNamed_18 rfl rfl rfl ?_
      refine lf_iload_n d_N_cellNamed_19 rfl rfl ?_
      refine gw_callP s_N_cellNamed_20 (n_ownerOf hx hN (by omega)) (S := []) rfl rfl (gcR_2 (c_1 hN)) (by decide) (by decide +kernel) (Nat.le_of_ble_eq_true rfl) ?_
      refine lf_iload_n d_N_cellNamed_23 rfl rfl ?_
      refine gi_icmp_ne d_N_cellNamed_24 (tgt := 38) (by decide) (by omega) (fun hb24 => ?_) (fun hb24 => ?_)
      · refine gi_iincN d_N_cellNamed_38 rfl (by decide +kernel) (L2 := [(3, _), (0, _), (1, _), (2, _)]) rfl ?_
        refine lf_goto d_N_cellNamed_41 (tgt := 2) (by decide) ?_
        exact ih (k + 1) (by omega)
      · refine lf_aload_n d_N_cellNamed_27 rfl rfl rfl ?_
        refine lf_iload_n d_N_cellNamed_28 rfl rfl ?_
        refine gw_callP s_N_cellNamed_29 (n_nameOf hx hN (by omega)) (S := []) rfl rfl (gcR_2 (c_1 hN)) (by decide) (by decide +kernel) (Nat.le_of_ble_eq_true rfl) ?_
        refine lf_iload_n d_N_cellNamed_32 rfl rfl ?_
        refine gi_icmp_ne d_N_cellNamed_33 (tgt := 38) (by decide) (by omega) (fun hb33 => ?_) (fun hb33 => False.elim (by exact hno ⟨by omega, by omega, by omega⟩))
        refine gi_iincN d_N_cellNamed_38 rfl (by decide +kernel) (L2 := [(3, _), (0, _), (1, _), (2, _)]) rfl ?_
        refine lf_goto d_N_cellNamed_41 (tgt := 2) (by decide) ?_
        exact ih (k + 1) (by omega)
theorem n_cellNamed (hx : HX X L9 xs) (hN : clN sh) (hR : NR I) (hna9 : ∀ k, -2147483648 ≤ I 8 k ∧ I 8 k < 2147483648) {n : Nat} (hn : I 1 11 = n) (hn2 : n ≤ 80) {t na : Int} (ht : 0 ≤ t ∧ t ≤ 2) (hna : 0 ≤ na ∧ na ≤ 9) (hno : ∀ k, k < n → ¬ (I 3 k = 99 ∧ I 4 k = t ∧ I 8 k = na)) : EVp TT cl6 X mi_N_cellNamed 2 [.ref 1, .int (Int32.ofInt (t)), .int (Int32.ofInt (na))] sh I J (.int (Int32.ofInt (-1))) := by
  refine gw_enter (hx_ok hx) (by decide +kernel) (Nat.le_of_ble_eq_true rfl) (L := [(0, _), (1, _), (2, _)]) rfl ?_
  refine lf_iconst d_N_cellNamed_0 (v := Int32.ofInt ((0 : Nat) : Int)) rfl ?_
  refine lf_istore_n d_N_cellNamed_1 rfl (by decide +kernel) (L2 := [(3, _), (0, _), (1, _), (2, _)]) rfl ?_
  refine n_cellNamed_l hx hN hR hna9 hn hn2 ht hna hno ?_ n 0 (by omega)
  refine lf_iconst d_N_cellNamed_44 (v := Int32.ofInt (-1)) rfl ?_
  refine gw_iret d_N_cellNamed_45 rfl ?_
  exact ⟨rfl, rfl, rfl, rfl⟩
theorem n_canBeClosed_l (hx : HX X L9 xs) (hN : clN sh) (hR : NR I) (h59 : ∀ k, -2147483648 ≤ I 5 k ∧ I 5 k < 2147483648) (hO : ∀ k, 0 ≤ I 10 k ∧ I 10 k ≤ 4) {n : Nat} (hn : I 1 11 = n) (hn2 : n ≤ 80) {b : Int} (hb : (b = 1 ∧ (∀ k, k < n → I 3 k = 99 → 0 ≤ I 5 k) ∧ I 10 0 = I 10 1 ∧ 1 ≤ I 10 0) ∨ (b = 0 ∧ ((∃ k, k < n ∧ I 3 k = 99 ∧ I 5 k < 0) ∨ I 10 0 < 1))) (hret : P (some (.int (Int32.ofInt (b)))) (hp sh I J)) (k34 : (∀ k, k < n → I 3 k = 99 → 0 ≤ I 5 k) → LXf TT cl6 X mi_N_canBeClosed (40 + 2) (1000 + 200 * 2) D P PX kc ks 34 [(1, .int (Int32.ofInt ((n : Nat) : Int))), (0, .ref 1)] [] (hp sh I J)) : ∀ c k : Nat, k + c = n → (∀ j, j < k → I 3 j = 99 → 0 ≤ I 5 j) → LXf TT cl6 X mi_N_canBeClosed (40 + 2) (1000 + 200 * 2) D P PX kc ks 2 [(1, .int (Int32.ofInt ((k : Nat) : Int))), (0, .ref 1)] [] (hp sh I J) := by
  intro c
  induction c with
  | zero =>
    intro k hk hg
    obtain rfl : k = n := by omega
    refine lf_iload_n d_N_canBeClosed_2 rfl rfl ?_
    refine lf_aload_n d_N_canBeClosed_3 rfl rfl rfl ?_
    refine gi_geti s_N_canBeClosed_4 (c_1 hN) rfl ?_
    refine gi_top hn ?_
    refine gi_icmp_ge d_N_canBeClosed_7 (tgt := 34) (by decide) (by omega) (fun hb7 => ?_) (fun hb7 => False.elim (by omega))
    exact k34 hg
  | succ c ih =>
    intro k hk hg
    have h5 := h59 k
    refine lf_iload_n d_N_canBeClosed_2 rfl rfl ?_
    refine lf_aload_n d_N_canBeClosed_3 rfl rfl rfl ?_
    refine gi_geti s_N_canBeClosed_4 (c_1 hN) rfl ?_
    refine gi_top hn ?_
    refine gi_icmp_ge d_N_canBeClosed_7 (tgt := 34) (by decide) (by omega) (fun hb7 => False.elim (by omega)) (fun hb7 => ?_)
    refine lf_aload_n d_N_canBeClosed_10 rfl rfl rfl ?_
    refine lf_iload_n d_N_canBeClosed_11 rfl rfl ?_
    refine gw_callP s_N_canBeClosed_12 (n_isCell hx hN hR (by omega)) (S := []) rfl rfl (gcR_2 (c_1 hN)) (by decide) (by decide +kernel) (Nat.le_of_ble_eq_true rfl) ?_
    refine gb_if_eq d_N_canBeClosed_15 (tgt := 28) (by decide) (fun hb15 => ?_) (fun hb15 => ?_)
    · refine gi_iincN d_N_canBeClosed_28 rfl (by decide +kernel) (L2 := [(1, _), (0, _)]) rfl ?_
      refine lf_goto d_N_canBeClosed_31 (tgt := 2) (by decide) ?_
      refine ih (k + 1) (by omega) (fun j hj hj9 => ?_)
      rcases Nat.lt_or_ge j k with q | q
      · exact hg j q hj9
      · obtain rfl : j = k := by omega
        omega
    · refine lf_aload_n d_N_canBeClosed_18 rfl rfl rfl ?_
      refine lf_iload_n d_N_canBeClosed_19 rfl rfl ?_
      refine gw_callP s_N_canBeClosed_20 (n_dataOf hx hN (by omega)) (S := []) rfl rfl (gcR_2 (c_1 hN)) (by decide) (by decide +kernel) (Nat.le_of_ble_eq_true rfl) ?_
      refine gi_if_ge d_N_canBeClosed_23 (tgt := 28) (by decide) (by omega) (fun hb23 => ?_) (fun hb23 => ?_)
      · refine gi_iincN d_N_canBeClosed_28 rfl (by decide +kernel) (L2 := [(1, _), (0, _)]) rfl ?_
        refine lf_goto d_N_canBeClosed_31 (tgt := 2) (by decide) ?_
        refine ih (k + 1) (by omega) (fun j hj hj9 => ?_)
        rcases Nat.lt_or_ge j k with q | q
        · exact hg j q hj9
        · obtain rfl : j = k := by omega
          omega
      · refine lf_iconst d_N_canBeClosed_26 (v := Int32.ofInt ((0 : Nat) : Int)) rfl ?_
        refine gi_top (show (((0 : Nat) : Int)) = b from by rcases hb with ⟨e, e2, -⟩ | ⟨e, -⟩ <;> first | exact e.symm | exact absurd (e2 k (by omega) (by omega)) (by omega)) ?_
        refine lf_ireturn d_N_canBeClosed_27 rfl ?_ hret
        have : b = 0 := by rcases hb with ⟨e, e2, -⟩ | ⟨e, -⟩ <;> first | exact e | exact absurd (e2 k (by omega) (by omega)) (by omega)
        rw [this]; rfl
theorem n_canBeClosed (hx : HX X L9 xs) (hN : clN sh) (hR : NR I) (h59 : ∀ k, -2147483648 ≤ I 5 k ∧ I 5 k < 2147483648) (hO : ∀ k, 0 ≤ I 10 k ∧ I 10 k ≤ 4) {n : Nat} (hn : I 1 11 = n) (hn2 : n ≤ 80) {b : Int} (hb : (b = 1 ∧ (∀ k, k < n → I 3 k = 99 → 0 ≤ I 5 k) ∧ I 10 0 = I 10 1 ∧ 1 ≤ I 10 0) ∨ (b = 0 ∧ ((∃ k, k < n ∧ I 3 k = 99 ∧ I 5 k < 0) ∨ I 10 0 < 1))) : EVp TT cl6 X mi_N_canBeClosed 2 [.ref 1] sh I J (.int (Int32.ofInt (b))) := by
  have h0 := hO 0
  have h1 := hO 1
  refine gw_enter (hx_ok hx) (by decide +kernel) (Nat.le_of_ble_eq_true rfl) (L := [(0, _)]) rfl ?_
  refine lf_iconst d_N_canBeClosed_0 (v := Int32.ofInt ((0 : Nat) : Int)) rfl ?_
  refine lf_istore_n d_N_canBeClosed_1 rfl (by decide +kernel) (L2 := [(1, _), (0, _)]) rfl ?_
  refine n_canBeClosed_l hx hN hR h59 hO hn hn2 hb ⟨_, _, _, rfl, rfl, rfl, rfl, rfl⟩ (fun hg => ?_) n 0 (by omega) (fun j hj => absurd hj (Nat.not_lt_zero j))
  have hb : b = if I 10 0 = I 10 1 ∧ 1 ≤ I 10 0 then 1 else 0 := by
    rcases hb with ⟨e, e2, e3, e4⟩ | ⟨e, ⟨j, e2, e3, e4⟩ | e2⟩
    · rw [e, if_pos ⟨e3, e4⟩]
    · exact absurd (hg j e2 e3) (by omega)
    · rw [e, if_neg (by omega)]
  rw [hb]
  refine lf_aload_n d_N_canBeClosed_34 rfl rfl rfl ?_
  refine lf_iconst d_N_canBeClosed_35 (v := Int32.ofInt ((0 : Nat) : Int)) rfl ?_
  refine gw_callP s_N_canBeClosed_36 (n_outputsOf hx hN (by omega)) (S := []) rfl rfl (gcR_2 (c_1 hN)) (by decide) (by decide +kernel) (Nat.le_of_ble_eq_true rfl) ?_
  refine lf_aload_n d_N_canBeClosed_39 rfl rfl rfl ?_
  refine lf_iconst d_N_canBeClosed_40 (v := Int32.ofInt ((1 : Nat) : Int)) rfl ?_
  refine gw_callP s_N_canBeClosed_41 (n_outputsOf hx hN (by omega)) (S := [_]) rfl rfl (gcR_2 (c_1 hN)) (by decide) (by decide +kernel) (Nat.le_of_ble_eq_true rfl) ?_
  refine gi_icmp_ne d_N_canBeClosed_44 (tgt := 60) (by decide) (by omega) (fun hb44 => ?_) (fun hb44 => ?_)
  · refine lf_iconst d_N_canBeClosed_60 (v := Int32.ofInt ((0 : Nat) : Int)) rfl ?_
    refine gw_zret d_N_canBeClosed_61 rfl (by omega) ?_
    first
      | exact ⟨rfl, congrArg (fun z => some (Value.int (Int32.ofInt z))) (if_pos (by omega)).symm, rfl, rfl⟩
      | exact ⟨rfl, congrArg (fun z => some (Value.int (Int32.ofInt z))) (if_neg (by omega)).symm, rfl, rfl⟩
  · refine lf_aload_n d_N_canBeClosed_47 rfl rfl rfl ?_
    refine lf_iconst d_N_canBeClosed_48 (v := Int32.ofInt ((0 : Nat) : Int)) rfl ?_
    refine gw_callP s_N_canBeClosed_49 (n_outputsOf hx hN (by omega)) (S := []) rfl rfl (gcR_2 (c_1 hN)) (by decide) (by decide +kernel) (Nat.le_of_ble_eq_true rfl) ?_
    refine lf_iconst d_N_canBeClosed_52 (v := Int32.ofInt ((1 : Nat) : Int)) rfl ?_
    refine gi_icmp_lt d_N_canBeClosed_53 (tgt := 60) (by decide) (by omega) (fun hb53 => ?_) (fun hb53 => ?_)
    · refine lf_iconst d_N_canBeClosed_60 (v := Int32.ofInt ((0 : Nat) : Int)) rfl ?_
      refine gw_zret d_N_canBeClosed_61 rfl (by omega) ?_
      first
        | exact ⟨rfl, congrArg (fun z => some (Value.int (Int32.ofInt z))) (if_pos (by omega)).symm, rfl, rfl⟩
        | exact ⟨rfl, congrArg (fun z => some (Value.int (Int32.ofInt z))) (if_neg (by omega)).symm, rfl, rfl⟩
    · refine lf_iconst d_N_canBeClosed_56 (v := Int32.ofInt ((1 : Nat) : Int)) rfl ?_
      refine lf_goto d_N_canBeClosed_57 (tgt := 61) (by decide) ?_
      refine gw_zret d_N_canBeClosed_61 rfl (by omega) ?_
      first
        | exact ⟨rfl, congrArg (fun z => some (Value.int (Int32.ofInt z))) (if_pos (by omega)).symm, rfl, rfl⟩
        | exact ⟨rfl, congrArg (fun z => some (Value.int (Int32.ofInt z))) (if_neg (by omega)).symm, rfl, rfl⟩
theorem n_gather_l (hx : HX X L9 xs) (hN : clN sh) (hR : NR I) {n ni s : Nat} (hn : I 1 11 = n) (hn2 : n ≤ 80) (hs : ni ≤ s ∧ s ≤ n ∧ s ≤ 14) (hk1 : ∀ k, k < ni → I 3 k = 105) (hk2 : ∀ k, ni ≤ k → k < s → I 3 k = 99) (hk3 : ∀ k, s ≤ k → k < n → ¬ I 3 k = 105 ∧ ¬ I 3 k = 99) (k66 : ∀ I1 : mI, (∀ a, ¬ a = 12 → I1 a = I a) → (∀ j, j < s → I1 12 j = j) → LXf TT cl6 X mi_N_gatherSources (40 + 2) (1000 + 200 * 2) D P PX kc ks 66 [(3, .int (Int32.ofInt ((n : Nat) : Int))), (2, .int (Int32.ofInt ((ni + (min n s - ni) : Nat) : Int))), (1, .int (Int32.ofInt ((min n ni : Nat) : Int))), (0, .ref 1)] [] (hp sh I1 J)) : ∀ (c k : Nat) (I1 : mI), k + c = n → (∀ a, ¬ a = 12 → I1 a = I a) → (∀ j, j < min k s → I1 12 j = j) → LXf TT cl6 X mi_N_gatherSources (40 + 2) (1000 + 200 * 2) D P PX kc ks 9 [(3, .int (Int32.ofInt ((k : Nat) : Int))), (2, .int (Int32.ofInt ((ni + (min k s - ni) : Nat) : Int))), (1, .int (Int32.ofInt ((min k ni : Nat) : Int))), (0, .ref 1)] [] (hp sh I1 J) := by
  intro c
  induction c with
  | zero =>
    intro k I1 hk he hg
    obtain rfl : k = n := by omega
    refine lf_iload_n d_N_gatherSources_9 rfl rfl ?_
    refine lf_aload_n d_N_gatherSources_10 rfl rfl rfl ?_
    refine gi_geti s_N_gatherSources_11 (c_1 hN) rfl ?_
    refine gi_top (show I1 1 11 = (k : Int) from by rw [he 1 (by decide)]; exact hn) ?_
    refine gi_icmp_ge d_N_gatherSources_14 (tgt := 66) (by decide) (by omega) (fun hb14 => ?_) (fun hb14 => False.elim (by omega))
    exact k66 I1 he (fun j hj => hg j (by omega))
  | succ c ih =>
    intro k I1 hk he hg
    have hR1 : NR I1 := by unfold NR; rw [he 3 (by decide), he 4 (by decide)]; exact hR
    have e3 : I1 3 k = I 3 k := by rw [he 3 (by decide)]
    rcases Nat.lt_or_ge k ni with q1 | q1
    · have e1 : min k ni + 1 = min (k + 1) ni := by omega
      have e2 : ni + (min k s - ni) = ni + (min (k + 1) s - ni) := by omega
      have e4 := hk1 k q1
      refine lf_iload_n d_N_gatherSources_9 rfl rfl ?_
      refine lf_aload_n d_N_gatherSources_10 rfl rfl rfl ?_
      refine gi_geti s_N_gatherSources_11 (c_1 hN) rfl ?_
      refine gi_top (show I1 1 11 = (n : Int) from by rw [he 1 (by decide)]; exact hn) ?_
      refine gi_icmp_ge d_N_gatherSources_14 (tgt := 66) (by decide) (by omega) (fun hb14 => False.elim (by omega)) (fun hb14 => ?_)
      refine lf_aload_n d_N_gatherSources_17 rfl rfl rfl ?_
      refine lf_iload_n d_N_gatherSources_18 rfl rfl ?_
      refine gw_callP s_N_gatherSources_19 (n_isInput hx hN hR1 (by omega)) (S := []) rfl rfl (gcR_2 (c_1 hN)) (by decide) (by decide +kernel) (Nat.le_of_ble_eq_true rfl) ?_
      refine gb_if_eq d_N_gatherSources_22 (tgt := 40) (by decide) (fun hb22 => False.elim (by omega)) (fun hb22 => ?_)
      refine lf_aload_n d_N_gatherSources_25 rfl rfl rfl ?_
      refine gi_getr s_N_gatherSources_26 (c_1 hN) rfl ?_
      refine lf_iload_n d_N_gatherSources_29 rfl rfl ?_
      refine lf_iload_n d_N_gatherSources_30 rfl rfl ?_
      refine gw_callV s_N_gatherSources_31 (m_putNumberN hx (c_12 hN) (by omega)) (S := []) rfl rfl gcR_4 (by decide) (by decide +kernel) (Nat.le_of_ble_eq_true rfl) (fun I J w31 => ?_)
      obtain ⟨rfl, rfl⟩ := w31
      refine gi_iincN d_N_gatherSources_34 rfl (by decide +kernel) (L2 := [(1, _), (3, _), (2, _), (0, _)]) rfl ?_
      refine lf_goto d_N_gatherSources_37 (tgt := 60) (by decide) ?_
      refine gi_iincN d_N_gatherSources_60 rfl (by decide +kernel) (L2 := [(3, _), (1, _), (2, _), (0, _)]) rfl ?_
      refine lf_goto d_N_gatherSources_63 (tgt := 9) (by decide) ?_
      refine lf_sub [0, 2, 1, 3] rfl ?_
      rw [e1, e2]
      refine ih (k + 1) _ (by omega) (fun a ha => by rw [ipt_o ha]; exact he a ha) (fun j hj => ?_)
      rw [ipt_s]
      by_cases q : j = min k ni
      · rw [if_pos q]; omega
      · rw [if_neg q]; exact hg j (by omega)
    rcases Nat.lt_or_ge k s with q2 | q2
    · have e1 : min k ni = min (k + 1) ni := by omega
      have e2 : ni + (min k s - ni) + 1 = ni + (min (k + 1) s - ni) := by omega
      have e4 := hk2 k q1 q2
      refine lf_iload_n d_N_gatherSources_9 rfl rfl ?_
      refine lf_aload_n d_N_gatherSources_10 rfl rfl rfl ?_
      refine gi_geti s_N_gatherSources_11 (c_1 hN) rfl ?_
      refine gi_top (show I1 1 11 = (n : Int) from by rw [he 1 (by decide)]; exact hn) ?_
      refine gi_icmp_ge d_N_gatherSources_14 (tgt := 66) (by decide) (by omega) (fun hb14 => False.elim (by omega)) (fun hb14 => ?_)
      refine lf_aload_n d_N_gatherSources_17 rfl rfl rfl ?_
      refine lf_iload_n d_N_gatherSources_18 rfl rfl ?_
      refine gw_callP s_N_gatherSources_19 (n_isInput hx hN hR1 (by omega)) (S := []) rfl rfl (gcR_2 (c_1 hN)) (by decide) (by decide +kernel) (Nat.le_of_ble_eq_true rfl) ?_
      refine gb_if_eq d_N_gatherSources_22 (tgt := 40) (by decide) (fun hb22 => ?_) (fun hb22 => False.elim (by omega))
      refine lf_aload_n d_N_gatherSources_40 rfl rfl rfl ?_
      refine lf_iload_n d_N_gatherSources_41 rfl rfl ?_
      refine gw_callP s_N_gatherSources_42 (n_isCell hx hN hR1 (by omega)) (S := []) rfl rfl (gcR_2 (c_1 hN)) (by decide) (by decide +kernel) (Nat.le_of_ble_eq_true rfl) ?_
      refine gb_if_eq d_N_gatherSources_45 (tgt := 60) (by decide) (fun hb45 => False.elim (by omega)) (fun hb45 => ?_)
      refine lf_aload_n d_N_gatherSources_48 rfl rfl rfl ?_
      refine gi_getr s_N_gatherSources_49 (c_1 hN) rfl ?_
      refine lf_iload_n d_N_gatherSources_52 rfl rfl ?_
      refine lf_iload_n d_N_gatherSources_53 rfl rfl ?_
      refine gw_callV s_N_gatherSources_54 (m_putNumberN hx (c_12 hN) (by omega)) (S := []) rfl rfl gcR_4 (by decide) (by decide +kernel) (Nat.le_of_ble_eq_true rfl) (fun I J w54 => ?_)
      obtain ⟨rfl, rfl⟩ := w54
      refine gi_iincN d_N_gatherSources_57 rfl (by decide +kernel) (L2 := [(2, _), (3, _), (1, _), (0, _)]) rfl ?_
      refine gi_iincN d_N_gatherSources_60 rfl (by decide +kernel) (L2 := [(3, _), (2, _), (1, _), (0, _)]) rfl ?_
      refine lf_goto d_N_gatherSources_63 (tgt := 9) (by decide) ?_
      rw [e2, e1]
      refine ih (k + 1) _ (by omega) (fun a ha => by rw [ipt_o ha]; exact he a ha) (fun j hj => ?_)
      rw [ipt_s]
      by_cases q : j = ni + (min k s - ni)
      · rw [if_pos q]; omega
      · rw [if_neg q]; exact hg j (by omega)
    · have e1 : min k ni = min (k + 1) ni := by omega
      have e2 : ni + (min k s - ni) = ni + (min (k + 1) s - ni) := by omega
      have e4 := hk3 k q2 (by omega)
      refine lf_iload_n d_N_gatherSources_9 rfl rfl ?_
      refine lf_aload_n d_N_gatherSources_10 rfl rfl rfl ?_
      refine gi_geti s_N_gatherSources_11 (c_1 hN) rfl ?_
      refine gi_top (show I1 1 11 = (n : Int) from by rw [he 1 (by decide)]; exact hn) ?_
      refine gi_icmp_ge d_N_gatherSources_14 (tgt := 66) (by decide) (by omega) (fun hb14 => False.elim (by omega)) (fun hb14 => ?_)
      refine lf_aload_n d_N_gatherSources_17 rfl rfl rfl ?_
      refine lf_iload_n d_N_gatherSources_18 rfl rfl ?_
      refine gw_callP s_N_gatherSources_19 (n_isInput hx hN hR1 (by omega)) (S := []) rfl rfl (gcR_2 (c_1 hN)) (by decide) (by decide +kernel) (Nat.le_of_ble_eq_true rfl) ?_
      refine gb_if_eq d_N_gatherSources_22 (tgt := 40) (by decide) (fun hb22 => ?_) (fun hb22 => False.elim (by omega))
      refine lf_aload_n d_N_gatherSources_40 rfl rfl rfl ?_
      refine lf_iload_n d_N_gatherSources_41 rfl rfl ?_
      refine gw_callP s_N_gatherSources_42 (n_isCell hx hN hR1 (by omega)) (S := []) rfl rfl (gcR_2 (c_1 hN)) (by decide) (by decide +kernel) (Nat.le_of_ble_eq_true rfl) ?_
      refine gb_if_eq d_N_gatherSources_45 (tgt := 60) (by decide) (fun hb45 => ?_) (fun hb45 => False.elim (by omega))
      refine gi_iincN d_N_gatherSources_60 rfl (by decide +kernel) (L2 := [(3, _), (2, _), (1, _), (0, _)]) rfl ?_
      refine lf_goto d_N_gatherSources_63 (tgt := 9) (by decide) ?_
      rw [e1, e2]
      exact ih (k + 1) _ (by omega) he (fun j hj => hg j (by omega))
theorem n_gatherSources (hx : HX X L9 xs) (hN : clN sh) (hR : NR I) {n ni s : Nat} (hn : I 1 11 = n) (hn2 : n ≤ 80) (hs : ni ≤ s ∧ s ≤ n ∧ s ≤ 14) (hk1 : ∀ k, k < ni → I 3 k = 105) (hk2 : ∀ k, ni ≤ k → k < s → I 3 k = 99) (hk3 : ∀ k, s ≤ k → k < n → ¬ I 3 k = 105 ∧ ¬ I 3 k = 99) (hni : I 1 12 = ni) : EVv TT cl6 X mi_N_gatherSources 2 [.ref 1] sh I J (fun I1 J1 => (∀ a, ¬ a = 12 → I1 a = I a) ∧ (∀ j, j < s → I1 12 j = j) ∧ J1 = J) := by
  refine gw_enter (hx_ok hx) (by decide +kernel) (Nat.le_of_ble_eq_true rfl) (L := [(0, _)]) rfl ?_
  refine lf_iconst d_N_gatherSources_0 (v := Int32.ofInt ((0 : Nat) : Int)) rfl ?_
  refine lf_istore_n d_N_gatherSources_1 rfl (by decide +kernel) (L2 := [(1, _), (0, _)]) rfl ?_
  refine lf_aload_n d_N_gatherSources_2 rfl rfl rfl ?_
  refine gi_geti s_N_gatherSources_3 (c_1 hN) rfl ?_
  refine gi_top (hni.trans (show (ni : Int) = ((ni + (min 0 s - ni) : Nat) : Int) from by omega)) ?_
  refine lf_istore_n d_N_gatherSources_6 rfl (by decide +kernel) (L2 := [(2, _), (1, _), (0, _)]) rfl ?_
  refine lf_iconst d_N_gatherSources_7 (v := Int32.ofInt ((0 : Nat) : Int)) rfl ?_
  refine lf_istore_n d_N_gatherSources_8 rfl (by decide +kernel) (L2 := [(3, _), (2, _), (1, _), (0, _)]) rfl ?_
  have e1 : (0 : Nat) = min 0 ni := by omega
  rw [show Int32.ofInt ((0 : Nat) : Int) = Int32.ofInt ((0 : Nat) : Int) from rfl]
  refine lf_eqL (L1 := [(3, .int (Int32.ofInt ((0 : Nat) : Int))), (2, .int (Int32.ofInt ((ni + (min 0 s - ni) : Nat) : Int))), (1, .int (Int32.ofInt ((min 0 ni : Nat) : Int))), (0, .ref 1)]) (by rw [← e1]) ?_
  refine n_gather_l hx hN hR hn hn2 hs hk1 hk2 hk3 (fun I1 he hg => ?_) n 0 I (by omega) (fun _ _ => rfl) (fun j hj => absurd hj (by omega))
  refine gw_ret d_N_gatherSources_66 rfl ?_
  exact ⟨rfl, rfl, he, hg, rfl⟩
theorem n_sourceAtLine_l (hx : HX X L9 xs) (hN : clN sh) {s k : Nat} (hs : I 1 12 + I 11 0 + I 11 1 = (s : Int)) (hs2 : s ≤ 14) (hso : ∀ j, j < s → I 12 j = j) (hk : k < s) (hret : P (some (.int (Int32.ofInt ((k : Nat) : Int)))) (hp sh I J)) : ∀ c j : Nat, j + c = k → LXf TT cl6 X mi_N_sourceAtLine (40 + 3) (1000 + 200 * 3) D P PX kc ks 2 [(2, .int (Int32.ofInt ((j : Nat) : Int))), (0, .ref 1), (1, .int (Int32.ofInt ((k : Nat) : Int)))] [] (hp sh I J) := by
  intro c
  induction c with
  | zero =>
    intro j hj
    obtain rfl : j = k := by omega
    refine lf_iload_n d_N_sourceAtLine_2 rfl rfl ?_
    refine lf_aload_n d_N_sourceAtLine_3 rfl rfl rfl ?_
    refine gw_callP s_N_sourceAtLine_4 (n_sourceCount hx hN) (S := [_]) rfl rfl (gcR_2 (c_1 hN)) (by decide) (by decide +kernel) (Nat.le_of_ble_eq_true rfl) ?_
    refine gi_top hs ?_
    refine gi_icmp_ge d_N_sourceAtLine_7 (tgt := 27) (by decide) (by omega) (fun hb7 => False.elim (by omega)) (fun hb7 => ?_)
    refine lf_aload_n d_N_sourceAtLine_10 rfl rfl rfl ?_
    refine lf_iload_n d_N_sourceAtLine_11 rfl rfl ?_
    refine gw_callP s_N_sourceAtLine_12 (n_sourceLine hx hN (by omega)) (S := []) rfl rfl (gcR_2 (c_1 hN)) (by decide) (by decide +kernel) (Nat.le_of_ble_eq_true rfl) ?_
    refine gi_top (hso j hk) ?_
    refine lf_iload_n d_N_sourceAtLine_15 rfl rfl ?_
    refine gi_icmp_ne d_N_sourceAtLine_16 (tgt := 21) (by decide) (by omega) (fun hb16 => False.elim (by omega)) (fun hb16 => ?_)
    refine lf_iload_n d_N_sourceAtLine_19 rfl rfl ?_
    exact lf_ireturn d_N_sourceAtLine_20 rfl rfl hret
  | succ c ih =>
    intro j hj
    refine lf_iload_n d_N_sourceAtLine_2 rfl rfl ?_
    refine lf_aload_n d_N_sourceAtLine_3 rfl rfl rfl ?_
    refine gw_callP s_N_sourceAtLine_4 (n_sourceCount hx hN) (S := [_]) rfl rfl (gcR_2 (c_1 hN)) (by decide) (by decide +kernel) (Nat.le_of_ble_eq_true rfl) ?_
    refine gi_top hs ?_
    refine gi_icmp_ge d_N_sourceAtLine_7 (tgt := 27) (by decide) (by omega) (fun hb7 => False.elim (by omega)) (fun hb7 => ?_)
    refine lf_aload_n d_N_sourceAtLine_10 rfl rfl rfl ?_
    refine lf_iload_n d_N_sourceAtLine_11 rfl rfl ?_
    refine gw_callP s_N_sourceAtLine_12 (n_sourceLine hx hN (by omega)) (S := []) rfl rfl (gcR_2 (c_1 hN)) (by decide) (by decide +kernel) (Nat.le_of_ble_eq_true rfl) ?_
    refine gi_top (hso j (by omega)) ?_
    refine lf_iload_n d_N_sourceAtLine_15 rfl rfl ?_
    refine gi_icmp_ne d_N_sourceAtLine_16 (tgt := 21) (by decide) (by omega) (fun hb16 => ?_) (fun hb16 => False.elim (by omega))
    refine gi_iincN d_N_sourceAtLine_21 rfl (by decide +kernel) (L2 := [(2, _), (0, _), (1, _)]) rfl ?_
    refine lf_goto d_N_sourceAtLine_24 (tgt := 2) (by decide) ?_
    exact ih (j + 1) (by omega)
theorem n_sourceAtLine (hx : HX X L9 xs) (hN : clN sh) {s k : Nat} (hs : I 1 12 + I 11 0 + I 11 1 = (s : Int)) (hs2 : s ≤ 14) (hso : ∀ j, j < s → I 12 j = j) (hk : k < s) : EVp TT cl6 X mi_N_sourceAtLine 3 [.ref 1, .int (Int32.ofInt ((k : Nat) : Int))] sh I J (.int (Int32.ofInt ((k : Nat) : Int))) := by
  refine gw_enter (hx_ok hx) (by decide +kernel) (Nat.le_of_ble_eq_true rfl) (L := [(0, _), (1, _)]) rfl ?_
  refine lf_iconst d_N_sourceAtLine_0 (v := Int32.ofInt ((0 : Nat) : Int)) rfl ?_
  refine lf_istore_n d_N_sourceAtLine_1 rfl (by decide +kernel) (L2 := [(2, _), (0, _), (1, _)]) rfl ?_
  exact n_sourceAtLine_l hx hN hs hs2 hso hk ⟨_, _, _, rfl, rfl, rfl, rfl, rfl⟩ k 0 (by omega)
theorem n_hasMarkedPin (hx : HX X L9 xs) (hN : clN sh) (hR : NR I) (h13 : ∀ k, 0 ≤ I 13 k ∧ I 13 k ≤ 1) {k on tw : Nat} (hk : k < 80) (hp9 : (¬ I 3 k = 105 ∧ ¬ I 3 k = 99) → I 5 k = on ∧ I 6 k = tw ∧ on < 80 ∧ tw < 80) : EVp TT cl6 X mi_N_hasMarkedPin 2 [.ref 1, .int (Int32.ofInt ((k : Nat) : Int))] sh I J (.int (Int32.ofInt (if (¬ I 3 k = 105 ∧ ¬ I 3 k = 99) ∧ (I 13 on = 1 ∨ I 13 tw = 1) then 1 else 0))) := by
  have h1 := h13 on
  have h2 := h13 tw
  refine gw_enter (hx_ok hx) (by decide +kernel) (Nat.le_of_ble_eq_true rfl) (L := [(0, _), (1, _)]) rfl ?_
  refine lf_aload_n d_N_hasMarkedPin_0 rfl rfl rfl ?_
  refine lf_iload_n d_N_hasMarkedPin_1 rfl rfl ?_
  refine gw_callP s_N_hasMarkedPin_2 (n_isGate hx hN hR (by omega)) (S := []) rfl rfl (gcR_2 (c_1 hN)) (by decide) (by decide +kernel) (Nat.le_of_ble_eq_true rfl) ?_
  refine gb_if_eq d_N_hasMarkedPin_5 (tgt := 44) (by decide) (fun hb5 => ?_) (fun hb5 => ?_)
  · refine lf_iconst d_N_hasMarkedPin_44 (v := Int32.ofInt ((0 : Nat) : Int)) rfl ?_
    refine gw_zret d_N_hasMarkedPin_45 rfl (by omega) ?_
    first
      | exact ⟨rfl, congrArg (fun z => some (Value.int (Int32.ofInt z))) (if_pos (by omega)).symm, rfl, rfl⟩
      | exact ⟨rfl, congrArg (fun z => some (Value.int (Int32.ofInt z))) (if_neg (by omega)).symm, rfl, rfl⟩
  · refine lf_aload_n d_N_hasMarkedPin_8 rfl rfl rfl ?_
    refine gi_getr s_N_hasMarkedPin_9 (c_1 hN) rfl ?_
    refine lf_aload_n d_N_hasMarkedPin_12 rfl rfl rfl ?_
    refine lf_iload_n d_N_hasMarkedPin_13 rfl rfl ?_
    refine gw_callP s_N_hasMarkedPin_14 (n_oneOfPins hx hN (by omega)) (S := [_]) rfl rfl (gcR_2 (c_1 hN)) (by decide) (by decide +kernel) (Nat.le_of_ble_eq_true rfl) ?_
    refine gi_top (hp9 hb5).1 ?_
    refine gw_callP s_N_hasMarkedPin_17 (m_numberAtN hx (c_13 hN) ⟨(hp9 hb5).2.2.1, by omega⟩) (S := []) rfl rfl gcR_4 (by decide) (by decide +kernel) (Nat.le_of_ble_eq_true rfl) ?_
    refine lf_iconst d_N_hasMarkedPin_20 (v := Int32.ofInt ((1 : Nat) : Int)) rfl ?_
    refine gi_icmp_eq d_N_hasMarkedPin_21 (tgt := 40) (by decide) (by omega) (fun hb21 => ?_) (fun hb21 => ?_)
    · refine lf_iconst d_N_hasMarkedPin_40 (v := Int32.ofInt ((1 : Nat) : Int)) rfl ?_
      refine lf_goto d_N_hasMarkedPin_41 (tgt := 45) (by decide) ?_
      refine gw_zret d_N_hasMarkedPin_45 rfl (by omega) ?_
      first
        | exact ⟨rfl, congrArg (fun z => some (Value.int (Int32.ofInt z))) (if_pos (by omega)).symm, rfl, rfl⟩
        | exact ⟨rfl, congrArg (fun z => some (Value.int (Int32.ofInt z))) (if_neg (by omega)).symm, rfl, rfl⟩
    · refine lf_aload_n d_N_hasMarkedPin_24 rfl rfl rfl ?_
      refine gi_getr s_N_hasMarkedPin_25 (c_1 hN) rfl ?_
      refine lf_aload_n d_N_hasMarkedPin_28 rfl rfl rfl ?_
      refine lf_iload_n d_N_hasMarkedPin_29 rfl rfl ?_
      refine gw_callP s_N_hasMarkedPin_30 (n_twoOfPins hx hN (by omega)) (S := [_]) rfl rfl (gcR_2 (c_1 hN)) (by decide) (by decide +kernel) (Nat.le_of_ble_eq_true rfl) ?_
      refine gi_top (hp9 hb5).2.1 ?_
      refine gw_callP s_N_hasMarkedPin_33 (m_numberAtN hx (c_13 hN) ⟨(hp9 hb5).2.2.2, by omega⟩) (S := []) rfl rfl gcR_4 (by decide) (by decide +kernel) (Nat.le_of_ble_eq_true rfl) ?_
      refine lf_iconst d_N_hasMarkedPin_36 (v := Int32.ofInt ((1 : Nat) : Int)) rfl ?_
      refine gi_icmp_ne d_N_hasMarkedPin_37 (tgt := 44) (by decide) (by omega) (fun hb37 => ?_) (fun hb37 => ?_)
      · refine lf_iconst d_N_hasMarkedPin_44 (v := Int32.ofInt ((0 : Nat) : Int)) rfl ?_
        refine gw_zret d_N_hasMarkedPin_45 rfl (by omega) ?_
        first
          | exact ⟨rfl, congrArg (fun z => some (Value.int (Int32.ofInt z))) (if_pos (by omega)).symm, rfl, rfl⟩
          | exact ⟨rfl, congrArg (fun z => some (Value.int (Int32.ofInt z))) (if_neg (by omega)).symm, rfl, rfl⟩
      · refine lf_iconst d_N_hasMarkedPin_40 (v := Int32.ofInt ((1 : Nat) : Int)) rfl ?_
        refine lf_goto d_N_hasMarkedPin_41 (tgt := 45) (by decide) ?_
        refine gw_zret d_N_hasMarkedPin_45 rfl (by omega) ?_
        first
          | exact ⟨rfl, congrArg (fun z => some (Value.int (Int32.ofInt z))) (if_pos (by omega)).symm, rfl, rfl⟩
          | exact ⟨rfl, congrArg (fun z => some (Value.int (Int32.ofInt z))) (if_neg (by omega)).symm, rfl, rfl⟩
theorem n_dependsOnCell_l (hx : HX X L9 xs) (hN : clN sh) (hR : NR I) {m : Nat} (hm : m < 80) {on tw : Nat → Nat} {hc : Nat → Int} (hp9 : ∀ k, k ≤ m → (¬ I 3 k = 105 ∧ ¬ I 3 k = 99) → I 5 k = on k ∧ I 6 k = tw k ∧ on k < k ∧ tw k < k) (hc9 : ∀ k, k ≤ m → hc k = if I 3 k = 99 ∨ ((¬ I 3 k = 105 ∧ ¬ I 3 k = 99) ∧ (hc (on k) = 1 ∨ hc (tw k) = 1)) then 1 else 0) (k42 : ∀ I1 : mI, (∀ a, ¬ a = 13 → I1 a = I a) → (∀ j, j ≤ m → I1 13 j = hc j) → LXf TT cl6 X mi_N_dependsOnCell (40 + 3) (1000 + 200 * 3) D P PX kc ks 42 [(2, .int (Int32.ofInt ((m + 1 : Nat) : Int))), (0, .ref 1), (1, .int (Int32.ofInt ((m : Nat) : Int)))] [] (hp sh I1 J)) : ∀ (c k : Nat) (I1 : mI), k + c = m + 1 → (∀ a, ¬ a = 13 → I1 a = I a) → (∀ j, 0 ≤ I1 13 j ∧ I1 13 j ≤ 1) → (∀ j, j < k → I1 13 j = hc j) → LXf TT cl6 X mi_N_dependsOnCell (40 + 3) (1000 + 200 * 3) D P PX kc ks 2 [(2, .int (Int32.ofInt ((k : Nat) : Int))), (0, .ref 1), (1, .int (Int32.ofInt ((m : Nat) : Int)))] [] (hp sh I1 J) := by
  intro c
  induction c with
  | zero =>
    intro k I1 hk he h13 hg
    obtain rfl : k = m + 1 := by omega
    refine lf_iload_n d_N_dependsOnCell_2 rfl rfl ?_
    refine lf_iload_n d_N_dependsOnCell_3 rfl rfl ?_
    refine gi_icmp_gt d_N_dependsOnCell_4 (tgt := 42) (by decide) (by omega) (fun hb4 => ?_) (fun hb4 => False.elim (by omega))
    exact k42 I1 he (fun j hj => hg j (by omega))
  | succ c ih =>
    intro k I1 hk he h13 hg
    have hR1 : NR I1 := by unfold NR; rw [he 3 (by decide), he 4 (by decide)]; exact hR
    have e3 : I1 3 k = I 3 k := by rw [he 3 (by decide)]
    have h9 : (¬ I1 3 k = 105 ∧ ¬ I1 3 k = 99) → I1 5 k = on k ∧ I1 6 k = tw k ∧ on k < 80 ∧ tw k < 80 := fun q => by
      have z := hp9 k (by omega) (by rw [← e3]; exact q)
      rw [he 5 (by decide), he 6 (by decide)]
      exact ⟨z.1, z.2.1, by omega, by omega⟩
    have g1 : (¬ I1 3 k = 105 ∧ ¬ I1 3 k = 99) → I1 13 (on k) = hc (on k) ∧ I1 13 (tw k) = hc (tw k) := fun q => by
      have z := hp9 k (by omega) (by rw [← e3]; exact q)
      exact ⟨hg _ (by omega), hg _ (by omega)⟩
    refine lf_iload_n d_N_dependsOnCell_2 rfl rfl ?_
    refine lf_iload_n d_N_dependsOnCell_3 rfl rfl ?_
    refine gi_icmp_gt d_N_dependsOnCell_4 (tgt := 42) (by decide) (by omega) (fun hb4 => False.elim (by omega)) (fun hb4 => ?_)
    refine lf_aload_n d_N_dependsOnCell_7 rfl rfl rfl ?_
    refine gi_getr s_N_dependsOnCell_8 (c_1 hN) rfl ?_
    refine lf_iload_n d_N_dependsOnCell_11 rfl rfl ?_
    refine lf_aload_n d_N_dependsOnCell_12 rfl rfl rfl ?_
    refine lf_iload_n d_N_dependsOnCell_13 rfl rfl ?_
    refine gw_callP s_N_dependsOnCell_14 (n_isCell hx hN hR1 (by omega)) (S := [_, _]) rfl rfl (gcR_2 (c_1 hN)) (by decide) (by decide +kernel) (Nat.le_of_ble_eq_true rfl) ?_
    refine gb_if_ne d_N_dependsOnCell_17 (tgt := 28) (by decide) (fun hb17 => ?_) (fun hb17 => ?_)
    · refine lf_iconst d_N_dependsOnCell_28 (v := Int32.ofInt ((1 : Nat) : Int)) rfl ?_
      refine lf_goto d_N_dependsOnCell_29 (tgt := 33) (by decide) ?_
      refine gw_callV s_N_dependsOnCell_33 (m_putNumberN hx (c_13 hN) (by omega)) (S := []) rfl rfl gcR_4 (by decide) (by decide +kernel) (Nat.le_of_ble_eq_true rfl) (fun I J w33 => ?_)
      obtain ⟨rfl, rfl⟩ := w33
      refine gi_iincN d_N_dependsOnCell_36 rfl (by decide +kernel) (L2 := [(2, _), (0, _), (1, _)]) rfl ?_
      refine lf_goto d_N_dependsOnCell_39 (tgt := 2) (by decide) ?_
      by_cases hz : I1 3 k = 99 ∨ ((¬ I1 3 k = 105 ∧ ¬ I1 3 k = 99) ∧ (I1 13 (on k) = 1 ∨ I1 13 (tw k) = 1))
      · have hz2 : hc k = 1 := by
          rw [hc9 k (by omega)]
          refine if_pos ?_
          rcases hz with hz | ⟨hz, hz3⟩
          · exact Or.inl (by omega)
          · rw [(g1 hz).1, (g1 hz).2] at hz3
            exact Or.inr ⟨by rw [← e3]; exact hz, hz3⟩
        first
          | (exfalso; omega)
          | (refine ih (k + 1) _ (by omega) (fun a ha => by rw [ipt_o ha]; exact he a ha) (fun j => ?_) (fun j hj => ?_)
             · rw [ipt_s]
               by_cases q : j = k
               · rw [if_pos q]; omega
               · rw [if_neg q]; exact h13 j
             · rw [ipt_s]
               by_cases q : j = k
               · rw [if_pos q, q, hz2] <;> rfl
               · rw [if_neg q]; exact hg j (by omega))
      · have hz2 : hc k = 0 := by
          rw [hc9 k (by omega)]
          refine if_neg (fun hz4 => hz ?_)
          rcases hz4 with hz4 | ⟨hz4, hz3⟩
          · exact Or.inl (by omega)
          · have hz5 : ¬ I1 3 k = 105 ∧ ¬ I1 3 k = 99 := by rw [e3]; exact hz4
            rw [← (g1 hz5).1, ← (g1 hz5).2] at hz3
            exact Or.inr ⟨hz5, hz3⟩
        first
          | (exfalso; omega)
          | (refine ih (k + 1) _ (by omega) (fun a ha => by rw [ipt_o ha]; exact he a ha) (fun j => ?_) (fun j hj => ?_)
             · rw [ipt_s]
               by_cases q : j = k
               · rw [if_pos q]; omega
               · rw [if_neg q]; exact h13 j
             · rw [ipt_s]
               by_cases q : j = k
               · rw [if_pos q, q, hz2] <;> rfl
               · rw [if_neg q]; exact hg j (by omega))
    · refine lf_aload_n d_N_dependsOnCell_20 rfl rfl rfl ?_
      refine lf_iload_n d_N_dependsOnCell_21 rfl rfl ?_
      refine gw_callP s_N_dependsOnCell_22 (n_hasMarkedPin hx hN hR1 h13 (by omega) h9) (S := [_, _]) rfl rfl (gcR_2 (c_1 hN)) (by decide) (by decide +kernel) (Nat.le_of_ble_eq_true rfl) ?_
      refine gb_if_eq d_N_dependsOnCell_25 (tgt := 32) (by decide) (fun hb25 => ?_) (fun hb25 => ?_)
      · refine lf_iconst d_N_dependsOnCell_32 (v := Int32.ofInt ((0 : Nat) : Int)) rfl ?_
        refine gw_callV s_N_dependsOnCell_33 (m_putNumberN hx (c_13 hN) (by omega)) (S := []) rfl rfl gcR_4 (by decide) (by decide +kernel) (Nat.le_of_ble_eq_true rfl) (fun I J w33 => ?_)
        obtain ⟨rfl, rfl⟩ := w33
        refine gi_iincN d_N_dependsOnCell_36 rfl (by decide +kernel) (L2 := [(2, _), (0, _), (1, _)]) rfl ?_
        refine lf_goto d_N_dependsOnCell_39 (tgt := 2) (by decide) ?_
        by_cases hz : I1 3 k = 99 ∨ ((¬ I1 3 k = 105 ∧ ¬ I1 3 k = 99) ∧ (I1 13 (on k) = 1 ∨ I1 13 (tw k) = 1))
        · have hz2 : hc k = 1 := by
            rw [hc9 k (by omega)]
            refine if_pos ?_
            rcases hz with hz | ⟨hz, hz3⟩
            · exact Or.inl (by omega)
            · rw [(g1 hz).1, (g1 hz).2] at hz3
              exact Or.inr ⟨by rw [← e3]; exact hz, hz3⟩
          first
            | (exfalso; omega)
            | (refine ih (k + 1) _ (by omega) (fun a ha => by rw [ipt_o ha]; exact he a ha) (fun j => ?_) (fun j hj => ?_)
               · rw [ipt_s]
                 by_cases q : j = k
                 · rw [if_pos q]; omega
                 · rw [if_neg q]; exact h13 j
               · rw [ipt_s]
                 by_cases q : j = k
                 · rw [if_pos q, q, hz2] <;> rfl
                 · rw [if_neg q]; exact hg j (by omega))
        · have hz2 : hc k = 0 := by
            rw [hc9 k (by omega)]
            refine if_neg (fun hz4 => hz ?_)
            rcases hz4 with hz4 | ⟨hz4, hz3⟩
            · exact Or.inl (by omega)
            · have hz5 : ¬ I1 3 k = 105 ∧ ¬ I1 3 k = 99 := by rw [e3]; exact hz4
              rw [← (g1 hz5).1, ← (g1 hz5).2] at hz3
              exact Or.inr ⟨hz5, hz3⟩
          first
            | (exfalso; omega)
            | (refine ih (k + 1) _ (by omega) (fun a ha => by rw [ipt_o ha]; exact he a ha) (fun j => ?_) (fun j hj => ?_)
               · rw [ipt_s]
                 by_cases q : j = k
                 · rw [if_pos q]; omega
                 · rw [if_neg q]; exact h13 j
               · rw [ipt_s]
                 by_cases q : j = k
                 · rw [if_pos q, q, hz2] <;> rfl
                 · rw [if_neg q]; exact hg j (by omega))
      · refine lf_iconst d_N_dependsOnCell_28 (v := Int32.ofInt ((1 : Nat) : Int)) rfl ?_
        refine lf_goto d_N_dependsOnCell_29 (tgt := 33) (by decide) ?_
        refine gw_callV s_N_dependsOnCell_33 (m_putNumberN hx (c_13 hN) (by omega)) (S := []) rfl rfl gcR_4 (by decide) (by decide +kernel) (Nat.le_of_ble_eq_true rfl) (fun I J w33 => ?_)
        obtain ⟨rfl, rfl⟩ := w33
        refine gi_iincN d_N_dependsOnCell_36 rfl (by decide +kernel) (L2 := [(2, _), (0, _), (1, _)]) rfl ?_
        refine lf_goto d_N_dependsOnCell_39 (tgt := 2) (by decide) ?_
        by_cases hz : I1 3 k = 99 ∨ ((¬ I1 3 k = 105 ∧ ¬ I1 3 k = 99) ∧ (I1 13 (on k) = 1 ∨ I1 13 (tw k) = 1))
        · have hz2 : hc k = 1 := by
            rw [hc9 k (by omega)]
            refine if_pos ?_
            rcases hz with hz | ⟨hz, hz3⟩
            · exact Or.inl (by omega)
            · rw [(g1 hz).1, (g1 hz).2] at hz3
              exact Or.inr ⟨by rw [← e3]; exact hz, hz3⟩
          first
            | (exfalso; omega)
            | (refine ih (k + 1) _ (by omega) (fun a ha => by rw [ipt_o ha]; exact he a ha) (fun j => ?_) (fun j hj => ?_)
               · rw [ipt_s]
                 by_cases q : j = k
                 · rw [if_pos q]; omega
                 · rw [if_neg q]; exact h13 j
               · rw [ipt_s]
                 by_cases q : j = k
                 · rw [if_pos q, q, hz2] <;> rfl
                 · rw [if_neg q]; exact hg j (by omega))
        · have hz2 : hc k = 0 := by
            rw [hc9 k (by omega)]
            refine if_neg (fun hz4 => hz ?_)
            rcases hz4 with hz4 | ⟨hz4, hz3⟩
            · exact Or.inl (by omega)
            · have hz5 : ¬ I1 3 k = 105 ∧ ¬ I1 3 k = 99 := by rw [e3]; exact hz4
              rw [← (g1 hz5).1, ← (g1 hz5).2] at hz3
              exact Or.inr ⟨hz5, hz3⟩
          first
            | (exfalso; omega)
            | (refine ih (k + 1) _ (by omega) (fun a ha => by rw [ipt_o ha]; exact he a ha) (fun j => ?_) (fun j hj => ?_)
               · rw [ipt_s]
                 by_cases q : j = k
                 · rw [if_pos q]; omega
                 · rw [if_neg q]; exact h13 j
               · rw [ipt_s]
                 by_cases q : j = k
                 · rw [if_pos q, q, hz2] <;> rfl
                 · rw [if_neg q]; exact hg j (by omega))
theorem n_dependsOnCell (hx : HX X L9 xs) (hN : clN sh) (h13 : ∀ j, 0 ≤ I 13 j ∧ I 13 j ≤ 1) (hR : NR I) {m : Nat} (hm : m < 80) {on tw : Nat → Nat} {hc : Nat → Int} (hp9 : ∀ k, k ≤ m → (¬ I 3 k = 105 ∧ ¬ I 3 k = 99) → I 5 k = on k ∧ I 6 k = tw k ∧ on k < k ∧ tw k < k) (hc9 : ∀ k, k ≤ m → hc k = if I 3 k = 99 ∨ ((¬ I 3 k = 105 ∧ ¬ I 3 k = 99) ∧ (hc (on k) = 1 ∨ hc (tw k) = 1)) then 1 else 0) : EVi TT cl6 X mi_N_dependsOnCell 3 [.ref 1, .int (Int32.ofInt ((m : Nat) : Int))] sh I J (fun r I1 J1 => r = (if hc m = 1 then 1 else 0) ∧ (∀ a, ¬ a = 13 → I1 a = I a) ∧ J1 = J) := by
  refine gw_enter (hx_ok hx) (by decide +kernel) (Nat.le_of_ble_eq_true rfl) (L := [(0, _), (1, _)]) rfl ?_
  refine lf_iconst d_N_dependsOnCell_0 (v := Int32.ofInt ((0 : Nat) : Int)) rfl ?_
  refine lf_istore_n d_N_dependsOnCell_1 rfl (by decide +kernel) (L2 := [(2, _), (0, _), (1, _)]) rfl ?_
  refine n_dependsOnCell_l hx hN hR hm hp9 hc9 (fun I1 he hg => ?_) (m + 1) 0 I (by omega) (fun _ _ => rfl) h13 (fun j hj => absurd hj (Nat.not_lt_zero j))
  have hr9 : I1 13 m = 0 ∨ I1 13 m = 1 := by rw [hg m (Nat.le_refl m), hc9 m (Nat.le_refl m)]; exact bz_in
  refine lf_aload_n d_N_dependsOnCell_42 rfl rfl rfl ?_
  refine gi_getr s_N_dependsOnCell_43 (c_1 hN) rfl ?_
  refine lf_iload_n d_N_dependsOnCell_46 rfl rfl ?_
  refine gw_callP s_N_dependsOnCell_47 (m_numberAtN hx (c_13 hN) (by omega)) (S := []) rfl rfl gcR_4 (by decide) (by decide +kernel) (Nat.le_of_ble_eq_true rfl) ?_
  refine lf_iconst d_N_dependsOnCell_50 (v := Int32.ofInt ((1 : Nat) : Int)) rfl ?_
  refine gi_icmp_ne d_N_dependsOnCell_51 (tgt := 58) (by decide) (by omega) (fun hb51 => ?_) (fun hb51 => ?_)
  · refine lf_iconst d_N_dependsOnCell_58 (v := Int32.ofInt ((0 : Nat) : Int)) rfl ?_
    refine gw_zret d_N_dependsOnCell_59 rfl (by omega) ?_
    rw [hg m (Nat.le_refl m)] at hb51
    first
      | exact ⟨rfl, _, rfl, (if_pos (by omega)).symm, he, rfl⟩
      | exact ⟨rfl, _, rfl, (if_neg (by omega)).symm, he, rfl⟩
  · refine lf_iconst d_N_dependsOnCell_54 (v := Int32.ofInt ((1 : Nat) : Int)) rfl ?_
    refine lf_goto d_N_dependsOnCell_55 (tgt := 59) (by decide) ?_
    refine gw_zret d_N_dependsOnCell_59 rfl (by omega) ?_
    rw [hg m (Nat.le_refl m)] at hb51
    first
      | exact ⟨rfl, _, rfl, (if_pos (by omega)).symm, he, rfl⟩
      | exact ⟨rfl, _, rfl, (if_neg (by omega)).symm, he, rfl⟩
end NT2
