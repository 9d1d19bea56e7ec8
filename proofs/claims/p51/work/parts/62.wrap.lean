section WR1
variable {X : XT} {L9 : Nat} {xs : Nat → Int32} {sh : sM} {I : mI} {J : mJ}

variable {D : mF} {P : Option Value → mF → Prop} {PX : String → mF → Prop} {kc ks : Nat}

theorem w_ands (hx : HX X L9 xs) {hs9 : Value} (hM : clM sh hs9) {lev lev1 kc1 ks1 : Nat} {F : Option Value → sM → mI → mJ → Prop} (he : EVa TT cl6 X mi_M_ands lev1 kc1 ks1 [.ref 0] sh I J F) (hv : ∀ v s I1 J1, F v s I1 J1 → ∃ z : Int32, v = some (.int z)) (hlev : lev1 < lev) : EVa TT cl6 X mi_W_ands lev kc1 ks1 [.ref 0] sh I J F := by
  refine gw_enter (hx_ok hx) (by decide +kernel) (Nat.le_of_ble_eq_true rfl) (L := [(0, _)]) rfl ?_
  refine lf_aload_n d_W_ands_0 rfl rfl rfl ?_
  refine gw_callA s_W_ands_1 he (S := []) rfl rfl rfl rfl (gcR_2 (c_0 hM)) hlev (by decide +kernel) (Nat.le_of_ble_eq_true rfl) (kc := 0) (ks := 0) (fun v s1 I1 J1 w _ => ?_)
  obtain ⟨z, rfl⟩ := hv v s1 I1 J1 w
  exact lf_ireturn d_W_ands_4 rfl rfl ⟨s1, I1, J1, rfl, w⟩
theorem w_ands_2 (hx : HX X L9 xs) {hs9 : Value} (hM : clM sh hs9) {lev lev1 : Nat} {F : mI → mJ → Prop} (he : EVx X mi_M_ands lev1 [.ref 0] sh I J "java/lang/UnsupportedOperationException" F) (hlev : lev1 < lev) : EVa TT cl6 X mi_W_ands lev 1 6 [.ref 0] sh I J (fun v s I1 J1 => s = sh ∧ v = some (.int (Int32.ofInt (-900001))) ∧ F I1 J1) := by
  refine gw_enter (hx_ok hx) (by decide +kernel) (Nat.le_of_ble_eq_true rfl) (L := [(0, _)]) rfl ?_
  refine lf_aload_n d_W_ands_0 rfl rfl rfl ?_
  refine gw_call s_W_ands_1 he (S := []) (kc := 0) (ks := 0) rfl (gcR_2 (c_0 hM)) hlev (by decide +kernel) (Nat.le_of_ble_eq_true rfl) (fun q => nomatch q) (fun E1 s1 I1 J1 w _ => ?_) (fun v s1 I1 J1 w _ => w.elim)
  obtain ⟨rfl, rfl, w⟩ := w
  refine h_W_ands_1_2 hx ?_
  refine lf_astore_n d_W_ands_5 rfl (by decide +kernel) rfl (L2 := [(1, _), (0, _)]) rfl ?_
  refine gi_pushi s_W_ands_6 ?_
  refine gw_iret d_W_ands_8 rfl ?_
  exact ⟨rfl, rfl, w⟩
theorem w_cell (hx : HX X L9 xs) {hs9 : Value} (hM : clM sh hs9) {z0 z1 z2 : Int32} {lev lev1 kc1 ks1 : Nat} {F : Option Value → sM → mI → mJ → Prop} (he : EVa TT cl6 X mi_M_cell lev1 kc1 ks1 [.ref 0, .int z0, .int z1, .int z2] sh I J F) (hv : ∀ v s I1 J1, F v s I1 J1 → ∃ z : Int32, v = some (.int z)) (hlev : lev1 < lev) : EVa TT cl6 X mi_W_cell lev kc1 ks1 [.ref 0, .int z0, .int z1, .int z2] sh I J F := by
  refine gw_enter (hx_ok hx) (by decide +kernel) (Nat.le_of_ble_eq_true rfl) (L := [(0, _), (1, _), (2, _), (3, _)]) rfl ?_
  refine lf_aload_n d_W_cell_0 rfl rfl rfl ?_
  refine lf_iload_n d_W_cell_1 rfl rfl ?_
  refine lf_iload_n d_W_cell_2 rfl rfl ?_
  refine lf_iload_n d_W_cell_3 rfl rfl ?_
  refine gw_callA s_W_cell_4 he (S := []) rfl rfl rfl rfl (gcR_2 (c_0 hM)) hlev (by decide +kernel) (Nat.le_of_ble_eq_true rfl) (kc := 0) (ks := 0) (fun v s1 I1 J1 w _ => ?_)
  obtain ⟨z, rfl⟩ := hv v s1 I1 J1 w
  exact lf_ireturn d_W_cell_7 rfl rfl ⟨s1, I1, J1, rfl, w⟩
theorem w_cell_0 (hx : HX X L9 xs) {hs9 : Value} (hM : clM sh hs9) {z0 z1 z2 : Int32} {lev lev1 : Nat} {F : mI → mJ → Prop} (he : EVx X mi_M_cell lev1 [.ref 0, .int z0, .int z1, .int z2] sh I J "java/lang/IllegalArgumentException" F) (hlev : lev1 < lev) : EVa TT cl6 X mi_W_cell lev 1 6 [.ref 0, .int z0, .int z1, .int z2] sh I J (fun v s I1 J1 => s = sh ∧ v = some (.int (Int32.ofInt (-900001))) ∧ F I1 J1) := by
  refine gw_enter (hx_ok hx) (by decide +kernel) (Nat.le_of_ble_eq_true rfl) (L := [(0, _), (1, _), (2, _), (3, _)]) rfl ?_
  refine lf_aload_n d_W_cell_0 rfl rfl rfl ?_
  refine lf_iload_n d_W_cell_1 rfl rfl ?_
  refine lf_iload_n d_W_cell_2 rfl rfl ?_
  refine lf_iload_n d_W_cell_3 rfl rfl ?_
  refine gw_call s_W_cell_4 he (S := []) (kc := 0) (ks := 0) rfl (gcR_2 (c_0 hM)) hlev (by decide +kernel) (Nat.le_of_ble_eq_true rfl) (fun q => nomatch q) (fun E1 s1 I1 J1 w _ => ?_) (fun v s1 I1 J1 w _ => w.elim)
  obtain ⟨rfl, rfl, w⟩ := w
  refine h_W_cell_4_0 hx ?_
  refine lf_astore d_W_cell_8 (by decide +kernel) rfl (L2 := [(4, _), (0, _), (1, _), (2, _), (3, _)]) rfl ?_
  refine gi_pushi s_W_cell_10 ?_
  refine gw_iret d_W_cell_12 rfl ?_
  exact ⟨rfl, rfl, w⟩
theorem w_cell_2 (hx : HX X L9 xs) {hs9 : Value} (hM : clM sh hs9) {z0 z1 z2 : Int32} {lev lev1 : Nat} {F : mI → mJ → Prop} (he : EVx X mi_M_cell lev1 [.ref 0, .int z0, .int z1, .int z2] sh I J "java/lang/UnsupportedOperationException" F) (hlev : lev1 < lev) : EVa TT cl6 X mi_W_cell lev 1 6 [.ref 0, .int z0, .int z1, .int z2] sh I J (fun v s I1 J1 => s = sh ∧ v = some (.int (Int32.ofInt (-900002))) ∧ F I1 J1) := by
  refine gw_enter (hx_ok hx) (by decide +kernel) (Nat.le_of_ble_eq_true rfl) (L := [(0, _), (1, _), (2, _), (3, _)]) rfl ?_
  refine lf_aload_n d_W_cell_0 rfl rfl rfl ?_
  refine lf_iload_n d_W_cell_1 rfl rfl ?_
  refine lf_iload_n d_W_cell_2 rfl rfl ?_
  refine lf_iload_n d_W_cell_3 rfl rfl ?_
  refine gw_call s_W_cell_4 he (S := []) (kc := 0) (ks := 0) rfl (gcR_2 (c_0 hM)) hlev (by decide +kernel) (Nat.le_of_ble_eq_true rfl) (fun q => nomatch q) (fun E1 s1 I1 J1 w _ => ?_) (fun v s1 I1 J1 w _ => w.elim)
  obtain ⟨rfl, rfl, w⟩ := w
  refine h_W_cell_4_2 hx ?_
  refine lf_astore d_W_cell_13 (by decide +kernel) rfl (L2 := [(4, _), (0, _), (1, _), (2, _), (3, _)]) rfl ?_
  refine gi_pushi s_W_cell_15 ?_
  refine gw_iret d_W_cell_17 rfl ?_
  exact ⟨rfl, rfl, w⟩
theorem w_cell_3 (hx : HX X L9 xs) {hs9 : Value} (hM : clM sh hs9) {z0 z1 z2 : Int32} {lev lev1 : Nat} {F : mI → mJ → Prop} (he : EVx X mi_M_cell lev1 [.ref 0, .int z0, .int z1, .int z2] sh I J "java/lang/IllegalStateException" F) (hlev : lev1 < lev) : EVa TT cl6 X mi_W_cell lev 1 6 [.ref 0, .int z0, .int z1, .int z2] sh I J (fun v s I1 J1 => s = sh ∧ v = some (.int (Int32.ofInt (-900003))) ∧ F I1 J1) := by
  refine gw_enter (hx_ok hx) (by decide +kernel) (Nat.le_of_ble_eq_true rfl) (L := [(0, _), (1, _), (2, _), (3, _)]) rfl ?_
  refine lf_aload_n d_W_cell_0 rfl rfl rfl ?_
  refine lf_iload_n d_W_cell_1 rfl rfl ?_
  refine lf_iload_n d_W_cell_2 rfl rfl ?_
  refine lf_iload_n d_W_cell_3 rfl rfl ?_
  refine gw_call s_W_cell_4 he (S := []) (kc := 0) (ks := 0) rfl (gcR_2 (c_0 hM)) hlev (by decide +kernel) (Nat.le_of_ble_eq_true rfl) (fun q => nomatch q) (fun E1 s1 I1 J1 w _ => ?_) (fun v s1 I1 J1 w _ => w.elim)
  obtain ⟨rfl, rfl, w⟩ := w
  refine h_W_cell_4_3 hx ?_
  refine lf_astore d_W_cell_18 (by decide +kernel) rfl (L2 := [(4, _), (0, _), (1, _), (2, _), (3, _)]) rfl ?_
  refine gi_pushi s_W_cell_20 ?_
  refine gw_iret d_W_cell_22 rfl ?_
  exact ⟨rfl, rfl, w⟩
theorem w_close (hx : HX X L9 xs) {hs9 : Value} (hM : clM sh hs9) {lev lev1 kc1 ks1 : Nat} {F : Option Value → sM → mI → mJ → Prop} (he : EVa TT cl6 X mi_M_close lev1 kc1 ks1 [.ref 0] sh I J F) (hv : ∀ v s I1 J1, F v s I1 J1 → ∃ z : Int32, v = some (.int z)) (hlev : lev1 < lev) : EVa TT cl6 X mi_W_close lev kc1 ks1 [.ref 0] sh I J F := by
  refine gw_enter (hx_ok hx) (by decide +kernel) (Nat.le_of_ble_eq_true rfl) (L := [(0, _)]) rfl ?_
  refine lf_aload_n d_W_close_0 rfl rfl rfl ?_
  refine gw_callA s_W_close_1 he (S := []) rfl rfl rfl rfl (gcR_2 (c_0 hM)) hlev (by decide +kernel) (Nat.le_of_ble_eq_true rfl) (kc := 0) (ks := 0) (fun v s1 I1 J1 w _ => ?_)
  obtain ⟨z, rfl⟩ := hv v s1 I1 J1 w
  exact lf_ireturn d_W_close_4 rfl rfl ⟨s1, I1, J1, rfl, w⟩
theorem w_close_2 (hx : HX X L9 xs) {hs9 : Value} (hM : clM sh hs9) {lev lev1 : Nat} {F : mI → mJ → Prop} (he : EVx X mi_M_close lev1 [.ref 0] sh I J "java/lang/UnsupportedOperationException" F) (hlev : lev1 < lev) : EVa TT cl6 X mi_W_close lev 1 6 [.ref 0] sh I J (fun v s I1 J1 => s = sh ∧ v = some (.int (Int32.ofInt (-900001))) ∧ F I1 J1) := by
  refine gw_enter (hx_ok hx) (by decide +kernel) (Nat.le_of_ble_eq_true rfl) (L := [(0, _)]) rfl ?_
  refine lf_aload_n d_W_close_0 rfl rfl rfl ?_
  refine gw_call s_W_close_1 he (S := []) (kc := 0) (ks := 0) rfl (gcR_2 (c_0 hM)) hlev (by decide +kernel) (Nat.le_of_ble_eq_true rfl) (fun q => nomatch q) (fun E1 s1 I1 J1 w _ => ?_) (fun v s1 I1 J1 w _ => w.elim)
  obtain ⟨rfl, rfl, w⟩ := w
  refine h_W_close_1_2 hx ?_
  refine lf_astore_n d_W_close_5 rfl (by decide +kernel) rfl (L2 := [(1, _), (0, _)]) rfl ?_
  refine gi_pushi s_W_close_6 ?_
  refine gw_iret d_W_close_8 rfl ?_
  exact ⟨rfl, rfl, w⟩
theorem w_constrain (hx : HX X L9 xs) {hs9 : Value} (hM : clM sh hs9) {z0 : Int32} {lev lev1 kc1 ks1 : Nat} {F : Option Value → sM → mI → mJ → Prop} (he : EVa TT cl6 X mi_M_constrain lev1 kc1 ks1 [.ref 0, .int z0] sh I J F) (hv : ∀ v s I1 J1, F v s I1 J1 → ∃ z : Int32, v = some (.int z)) (hlev : lev1 < lev) : EVa TT cl6 X mi_W_constrain lev kc1 ks1 [.ref 0, .int z0] sh I J F := by
  refine gw_enter (hx_ok hx) (by decide +kernel) (Nat.le_of_ble_eq_true rfl) (L := [(0, _), (1, _)]) rfl ?_
  refine lf_aload_n d_W_constrain_0 rfl rfl rfl ?_
  refine lf_iload_n d_W_constrain_1 rfl rfl ?_
  refine gw_callA s_W_constrain_2 he (S := []) rfl rfl rfl rfl (gcR_2 (c_0 hM)) hlev (by decide +kernel) (Nat.le_of_ble_eq_true rfl) (kc := 0) (ks := 0) (fun v s1 I1 J1 w _ => ?_)
  obtain ⟨z, rfl⟩ := hv v s1 I1 J1 w
  exact lf_ireturn d_W_constrain_5 rfl rfl ⟨s1, I1, J1, rfl, w⟩
theorem w_constrain_1 (hx : HX X L9 xs) {hs9 : Value} (hM : clM sh hs9) {z0 : Int32} {lev lev1 : Nat} {F : mI → mJ → Prop} (he : EVx X mi_M_constrain lev1 [.ref 0, .int z0] sh I J "java/lang/IndexOutOfBoundsException" F) (hlev : lev1 < lev) : EVa TT cl6 X mi_W_constrain lev 1 6 [.ref 0, .int z0] sh I J (fun v s I1 J1 => s = sh ∧ v = some (.int (Int32.ofInt (-900001))) ∧ F I1 J1) := by
  refine gw_enter (hx_ok hx) (by decide +kernel) (Nat.le_of_ble_eq_true rfl) (L := [(0, _), (1, _)]) rfl ?_
  refine lf_aload_n d_W_constrain_0 rfl rfl rfl ?_
  refine lf_iload_n d_W_constrain_1 rfl rfl ?_
  refine gw_call s_W_constrain_2 he (S := []) (kc := 0) (ks := 0) rfl (gcR_2 (c_0 hM)) hlev (by decide +kernel) (Nat.le_of_ble_eq_true rfl) (fun q => nomatch q) (fun E1 s1 I1 J1 w _ => ?_) (fun v s1 I1 J1 w _ => w.elim)
  obtain ⟨rfl, rfl, w⟩ := w
  refine h_W_constrain_2_1 hx ?_
  refine lf_astore_n d_W_constrain_6 rfl (by decide +kernel) rfl (L2 := [(2, _), (0, _), (1, _)]) rfl ?_
  refine gi_pushi s_W_constrain_7 ?_
  refine gw_iret d_W_constrain_9 rfl ?_
  exact ⟨rfl, rfl, w⟩
theorem w_constrain_2 (hx : HX X L9 xs) {hs9 : Value} (hM : clM sh hs9) {z0 : Int32} {lev lev1 : Nat} {F : mI → mJ → Prop} (he : EVx X mi_M_constrain lev1 [.ref 0, .int z0] sh I J "java/lang/UnsupportedOperationException" F) (hlev : lev1 < lev) : EVa TT cl6 X mi_W_constrain lev 1 6 [.ref 0, .int z0] sh I J (fun v s I1 J1 => s = sh ∧ v = some (.int (Int32.ofInt (-900002))) ∧ F I1 J1) := by
  refine gw_enter (hx_ok hx) (by decide +kernel) (Nat.le_of_ble_eq_true rfl) (L := [(0, _), (1, _)]) rfl ?_
  refine lf_aload_n d_W_constrain_0 rfl rfl rfl ?_
  refine lf_iload_n d_W_constrain_1 rfl rfl ?_
  refine gw_call s_W_constrain_2 he (S := []) (kc := 0) (ks := 0) rfl (gcR_2 (c_0 hM)) hlev (by decide +kernel) (Nat.le_of_ble_eq_true rfl) (fun q => nomatch q) (fun E1 s1 I1 J1 w _ => ?_) (fun v s1 I1 J1 w _ => w.elim)
  obtain ⟨rfl, rfl, w⟩ := w
  refine h_W_constrain_2_2 hx ?_
  refine lf_astore_n d_W_constrain_10 rfl (by decide +kernel) rfl (L2 := [(2, _), (0, _), (1, _)]) rfl ?_
  refine gi_pushi s_W_constrain_11 ?_
  refine gw_iret d_W_constrain_13 rfl ?_
  exact ⟨rfl, rfl, w⟩
theorem w_constrain_3 (hx : HX X L9 xs) {hs9 : Value} (hM : clM sh hs9) {z0 : Int32} {lev lev1 : Nat} {F : mI → mJ → Prop} (he : EVx X mi_M_constrain lev1 [.ref 0, .int z0] sh I J "java/lang/IllegalStateException" F) (hlev : lev1 < lev) : EVa TT cl6 X mi_W_constrain lev 1 6 [.ref 0, .int z0] sh I J (fun v s I1 J1 => s = sh ∧ v = some (.int (Int32.ofInt (-900003))) ∧ F I1 J1) := by
  refine gw_enter (hx_ok hx) (by decide +kernel) (Nat.le_of_ble_eq_true rfl) (L := [(0, _), (1, _)]) rfl ?_
  refine lf_aload_n d_W_constrain_0 rfl rfl rfl ?_
  refine lf_iload_n d_W_constrain_1 rfl rfl ?_
  refine gw_call s_W_constrain_2 he (S := []) (kc := 0) (ks := 0) rfl (gcR_2 (c_0 hM)) hlev (by decide +kernel) (Nat.le_of_ble_eq_true rfl) (fun q => nomatch q) (fun E1 s1 I1 J1 w _ => ?_) (fun v s1 I1 J1 w _ => w.elim)
  obtain ⟨rfl, rfl, w⟩ := w
  refine h_W_constrain_2_3 hx ?_
  refine lf_astore_n d_W_constrain_14 rfl (by decide +kernel) rfl (L2 := [(2, _), (0, _), (1, _)]) rfl ?_
  refine gi_pushi s_W_constrain_15 ?_
  refine gw_iret d_W_constrain_17 rfl ?_
  exact ⟨rfl, rfl, w⟩
theorem w_data (hx : HX X L9 xs) {hs9 : Value} (hM : clM sh hs9) {z0 z1 : Int32} {lev lev1 kc1 ks1 : Nat} {F : Option Value → sM → mI → mJ → Prop} (he : EVa TT cl6 X mi_M_data lev1 kc1 ks1 [.ref 0, .int z0, .int z1] sh I J F) (hv : ∀ v s I1 J1, F v s I1 J1 → ∃ z : Int32, v = some (.int z)) (hlev : lev1 < lev) : EVa TT cl6 X mi_W_data lev kc1 ks1 [.ref 0, .int z0, .int z1] sh I J F := by
  refine gw_enter (hx_ok hx) (by decide +kernel) (Nat.le_of_ble_eq_true rfl) (L := [(0, _), (1, _), (2, _)]) rfl ?_
  refine lf_aload_n d_W_data_0 rfl rfl rfl ?_
  refine lf_iload_n d_W_data_1 rfl rfl ?_
  refine lf_iload_n d_W_data_2 rfl rfl ?_
  refine gw_callA s_W_data_3 he (S := []) rfl rfl rfl rfl (gcR_2 (c_0 hM)) hlev (by decide +kernel) (Nat.le_of_ble_eq_true rfl) (kc := 0) (ks := 0) (fun v s1 I1 J1 w _ => ?_)
  obtain ⟨z, rfl⟩ := hv v s1 I1 J1 w
  exact lf_ireturn d_W_data_6 rfl rfl ⟨s1, I1, J1, rfl, w⟩
theorem w_data_1 (hx : HX X L9 xs) {hs9 : Value} (hM : clM sh hs9) {z0 z1 : Int32} {lev lev1 : Nat} {F : mI → mJ → Prop} (he : EVx X mi_M_data lev1 [.ref 0, .int z0, .int z1] sh I J "java/lang/IndexOutOfBoundsException" F) (hlev : lev1 < lev) : EVa TT cl6 X mi_W_data lev 1 6 [.ref 0, .int z0, .int z1] sh I J (fun v s I1 J1 => s = sh ∧ v = some (.int (Int32.ofInt (-900001))) ∧ F I1 J1) := by
  refine gw_enter (hx_ok hx) (by decide +kernel) (Nat.le_of_ble_eq_true rfl) (L := [(0, _), (1, _), (2, _)]) rfl ?_
  refine lf_aload_n d_W_data_0 rfl rfl rfl ?_
  refine lf_iload_n d_W_data_1 rfl rfl ?_
  refine lf_iload_n d_W_data_2 rfl rfl ?_
  refine gw_call s_W_data_3 he (S := []) (kc := 0) (ks := 0) rfl (gcR_2 (c_0 hM)) hlev (by decide +kernel) (Nat.le_of_ble_eq_true rfl) (fun q => nomatch q) (fun E1 s1 I1 J1 w _ => ?_) (fun v s1 I1 J1 w _ => w.elim)
  obtain ⟨rfl, rfl, w⟩ := w
  refine h_W_data_3_1 hx ?_
  refine lf_astore_n d_W_data_7 rfl (by decide +kernel) rfl (L2 := [(3, _), (0, _), (1, _), (2, _)]) rfl ?_
  refine gi_pushi s_W_data_8 ?_
  refine gw_iret d_W_data_10 rfl ?_
  exact ⟨rfl, rfl, w⟩
theorem w_data_2 (hx : HX X L9 xs) {hs9 : Value} (hM : clM sh hs9) {z0 z1 : Int32} {lev lev1 : Nat} {F : mI → mJ → Prop} (he : EVx X mi_M_data lev1 [.ref 0, .int z0, .int z1] sh I J "java/lang/UnsupportedOperationException" F) (hlev : lev1 < lev) : EVa TT cl6 X mi_W_data lev 1 6 [.ref 0, .int z0, .int z1] sh I J (fun v s I1 J1 => s = sh ∧ v = some (.int (Int32.ofInt (-900002))) ∧ F I1 J1) := by
  refine gw_enter (hx_ok hx) (by decide +kernel) (Nat.le_of_ble_eq_true rfl) (L := [(0, _), (1, _), (2, _)]) rfl ?_
  refine lf_aload_n d_W_data_0 rfl rfl rfl ?_
  refine lf_iload_n d_W_data_1 rfl rfl ?_
  refine lf_iload_n d_W_data_2 rfl rfl ?_
  refine gw_call s_W_data_3 he (S := []) (kc := 0) (ks := 0) rfl (gcR_2 (c_0 hM)) hlev (by decide +kernel) (Nat.le_of_ble_eq_true rfl) (fun q => nomatch q) (fun E1 s1 I1 J1 w _ => ?_) (fun v s1 I1 J1 w _ => w.elim)
  obtain ⟨rfl, rfl, w⟩ := w
  refine h_W_data_3_2 hx ?_
  refine lf_astore_n d_W_data_11 rfl (by decide +kernel) rfl (L2 := [(3, _), (0, _), (1, _), (2, _)]) rfl ?_
  refine gi_pushi s_W_data_12 ?_
  refine gw_iret d_W_data_14 rfl ?_
  exact ⟨rfl, rfl, w⟩
theorem w_difference (hx : HX X L9 xs) {hs9 : Value} (hM : clM sh hs9) {lev lev1 kc1 ks1 : Nat} {F : Option Value → sM → mI → mJ → Prop} (he : EVa TT cl6 X mi_M_difference lev1 kc1 ks1 [.ref 0] sh I J F) (hv : ∀ v s I1 J1, F v s I1 J1 → ∃ z : Int32, v = some (.int z)) (hlev : lev1 < lev) : EVa TT cl6 X mi_W_difference lev kc1 ks1 [.ref 0] sh I J F := by
  refine gw_enter (hx_ok hx) (by decide +kernel) (Nat.le_of_ble_eq_true rfl) (L := [(0, _)]) rfl ?_
  refine lf_aload_n d_W_difference_0 rfl rfl rfl ?_
  refine gw_callA s_W_difference_1 he (S := []) rfl rfl rfl rfl (gcR_2 (c_0 hM)) hlev (by decide +kernel) (Nat.le_of_ble_eq_true rfl) (kc := 0) (ks := 0) (fun v s1 I1 J1 w _ => ?_)
  obtain ⟨z, rfl⟩ := hv v s1 I1 J1 w
  exact lf_ireturn d_W_difference_4 rfl rfl ⟨s1, I1, J1, rfl, w⟩
theorem w_difference_2 (hx : HX X L9 xs) {hs9 : Value} (hM : clM sh hs9) {lev lev1 : Nat} {F : mI → mJ → Prop} (he : EVx X mi_M_difference lev1 [.ref 0] sh I J "java/lang/UnsupportedOperationException" F) (hlev : lev1 < lev) : EVa TT cl6 X mi_W_difference lev 1 6 [.ref 0] sh I J (fun v s I1 J1 => s = sh ∧ v = some (.int (Int32.ofInt (-900001))) ∧ F I1 J1) := by
  refine gw_enter (hx_ok hx) (by decide +kernel) (Nat.le_of_ble_eq_true rfl) (L := [(0, _)]) rfl ?_
  refine lf_aload_n d_W_difference_0 rfl rfl rfl ?_
  refine gw_call s_W_difference_1 he (S := []) (kc := 0) (ks := 0) rfl (gcR_2 (c_0 hM)) hlev (by decide +kernel) (Nat.le_of_ble_eq_true rfl) (fun q => nomatch q) (fun E1 s1 I1 J1 w _ => ?_) (fun v s1 I1 J1 w _ => w.elim)
  obtain ⟨rfl, rfl, w⟩ := w
  refine h_W_difference_1_2 hx ?_
  refine lf_astore_n d_W_difference_5 rfl (by decide +kernel) rfl (L2 := [(1, _), (0, _)]) rfl ?_
  refine gi_pushi s_W_difference_6 ?_
  refine gw_iret d_W_difference_8 rfl ?_
  exact ⟨rfl, rfl, w⟩
theorem w_gate (hx : HX X L9 xs) {hs9 : Value} (hM : clM sh hs9) {z0 z1 z2 z3 : Int32} {lev lev1 kc1 ks1 : Nat} {F : Option Value → sM → mI → mJ → Prop} (he : EVa TT cl6 X mi_M_gate lev1 kc1 ks1 [.ref 0, .int z0, .int z1, .int z2, .int z3] sh I J F) (hv : ∀ v s I1 J1, F v s I1 J1 → ∃ z : Int32, v = some (.int z)) (hlev : lev1 < lev) : EVa TT cl6 X mi_W_gate lev kc1 ks1 [.ref 0, .int z0, .int z1, .int z2, .int z3] sh I J F := by
  refine gw_enter (hx_ok hx) (by decide +kernel) (Nat.le_of_ble_eq_true rfl) (L := [(0, _), (1, _), (2, _), (3, _), (4, _)]) rfl ?_
  refine lf_aload_n d_W_gate_0 rfl rfl rfl ?_
  refine lf_iload_n d_W_gate_1 rfl rfl ?_
  refine lf_iload_n d_W_gate_2 rfl rfl ?_
  refine lf_iload_n d_W_gate_3 rfl rfl ?_
  refine lf_iload d_W_gate_4 rfl ?_
  refine gw_callA s_W_gate_6 he (S := []) rfl rfl rfl rfl (gcR_2 (c_0 hM)) hlev (by decide +kernel) (Nat.le_of_ble_eq_true rfl) (kc := 0) (ks := 0) (fun v s1 I1 J1 w _ => ?_)
  obtain ⟨z, rfl⟩ := hv v s1 I1 J1 w
  exact lf_ireturn d_W_gate_9 rfl rfl ⟨s1, I1, J1, rfl, w⟩
theorem w_gate_0 (hx : HX X L9 xs) {hs9 : Value} (hM : clM sh hs9) {z0 z1 z2 z3 : Int32} {lev lev1 : Nat} {F : mI → mJ → Prop} (he : EVx X mi_M_gate lev1 [.ref 0, .int z0, .int z1, .int z2, .int z3] sh I J "java/lang/IllegalArgumentException" F) (hlev : lev1 < lev) : EVa TT cl6 X mi_W_gate lev 1 6 [.ref 0, .int z0, .int z1, .int z2, .int z3] sh I J (fun v s I1 J1 => s = sh ∧ v = some (.int (Int32.ofInt (-900001))) ∧ F I1 J1) := by
  refine gw_enter (hx_ok hx) (by decide +kernel) (Nat.le_of_ble_eq_true rfl) (L := [(0, _), (1, _), (2, _), (3, _), (4, _)]) rfl ?_
  refine lf_aload_n d_W_gate_0 rfl rfl rfl ?_
  refine lf_iload_n d_W_gate_1 rfl rfl ?_
  refine lf_iload_n d_W_gate_2 rfl rfl ?_
  refine lf_iload_n d_W_gate_3 rfl rfl ?_
  refine lf_iload d_W_gate_4 rfl ?_
  refine gw_call s_W_gate_6 he (S := []) (kc := 0) (ks := 0) rfl (gcR_2 (c_0 hM)) hlev (by decide +kernel) (Nat.le_of_ble_eq_true rfl) (fun q => nomatch q) (fun E1 s1 I1 J1 w _ => ?_) (fun v s1 I1 J1 w _ => w.elim)
  obtain ⟨rfl, rfl, w⟩ := w
  refine h_W_gate_6_0 hx ?_
  refine lf_astore d_W_gate_10 (by decide +kernel) rfl (L2 := [(5, _), (0, _), (1, _), (2, _), (3, _), (4, _)]) rfl ?_
  refine gi_pushi s_W_gate_12 ?_
  refine gw_iret d_W_gate_14 rfl ?_
  exact ⟨rfl, rfl, w⟩
theorem w_gate_1 (hx : HX X L9 xs) {hs9 : Value} (hM : clM sh hs9) {z0 z1 z2 z3 : Int32} {lev lev1 : Nat} {F : mI → mJ → Prop} (he : EVx X mi_M_gate lev1 [.ref 0, .int z0, .int z1, .int z2, .int z3] sh I J "java/lang/IndexOutOfBoundsException" F) (hlev : lev1 < lev) : EVa TT cl6 X mi_W_gate lev 1 6 [.ref 0, .int z0, .int z1, .int z2, .int z3] sh I J (fun v s I1 J1 => s = sh ∧ v = some (.int (Int32.ofInt (-900002))) ∧ F I1 J1) := by
  refine gw_enter (hx_ok hx) (by decide +kernel) (Nat.le_of_ble_eq_true rfl) (L := [(0, _), (1, _), (2, _), (3, _), (4, _)]) rfl ?_
  refine lf_aload_n d_W_gate_0 rfl rfl rfl ?_
  refine lf_iload_n d_W_gate_1 rfl rfl ?_
  refine lf_iload_n d_W_gate_2 rfl rfl ?_
  refine lf_iload_n d_W_gate_3 rfl rfl ?_
  refine lf_iload d_W_gate_4 rfl ?_
  refine gw_call s_W_gate_6 he (S := []) (kc := 0) (ks := 0) rfl (gcR_2 (c_0 hM)) hlev (by decide +kernel) (Nat.le_of_ble_eq_true rfl) (fun q => nomatch q) (fun E1 s1 I1 J1 w _ => ?_) (fun v s1 I1 J1 w _ => w.elim)
  obtain ⟨rfl, rfl, w⟩ := w
  refine h_W_gate_6_1 hx ?_
  refine lf_astore d_W_gate_15 (by decide +kernel) rfl (L2 := [(5, _), (0, _), (1, _), (2, _), (3, _), (4, _)]) rfl ?_
  refine gi_pushi s_W_gate_17 ?_
  refine gw_iret d_W_gate_19 rfl ?_
  exact ⟨rfl, rfl, w⟩
theorem w_gate_2 (hx : HX X L9 xs) {hs9 : Value} (hM : clM sh hs9) {z0 z1 z2 z3 : Int32} {lev lev1 : Nat} {F : mI → mJ → Prop} (he : EVx X mi_M_gate lev1 [.ref 0, .int z0, .int z1, .int z2, .int z3] sh I J "java/lang/UnsupportedOperationException" F) (hlev : lev1 < lev) : EVa TT cl6 X mi_W_gate lev 1 6 [.ref 0, .int z0, .int z1, .int z2, .int z3] sh I J (fun v s I1 J1 => s = sh ∧ v = some (.int (Int32.ofInt (-900003))) ∧ F I1 J1) := by
  refine gw_enter (hx_ok hx) (by decide +kernel) (Nat.le_of_ble_eq_true rfl) (L := [(0, _), (1, _), (2, _), (3, _), (4, _)]) rfl ?_
  refine lf_aload_n d_W_gate_0 rfl rfl rfl ?_
  refine lf_iload_n d_W_gate_1 rfl rfl ?_
  refine lf_iload_n d_W_gate_2 rfl rfl ?_
  refine lf_iload_n d_W_gate_3 rfl rfl ?_
  refine lf_iload d_W_gate_4 rfl ?_
  refine gw_call s_W_gate_6 he (S := []) (kc := 0) (ks := 0) rfl (gcR_2 (c_0 hM)) hlev (by decide +kernel) (Nat.le_of_ble_eq_true rfl) (fun q => nomatch q) (fun E1 s1 I1 J1 w _ => ?_) (fun v s1 I1 J1 w _ => w.elim)
  obtain ⟨rfl, rfl, w⟩ := w
  refine h_W_gate_6_2 hx ?_
  refine lf_astore d_W_gate_20 (by decide +kernel) rfl (L2 := [(5, _), (0, _), (1, _), (2, _), (3, _), (4, _)]) rfl ?_
  refine gi_pushi s_W_gate_22 ?_
  refine gw_iret d_W_gate_24 rfl ?_
  exact ⟨rfl, rfl, w⟩
theorem w_gate_3 (hx : HX X L9 xs) {hs9 : Value} (hM : clM sh hs9) {z0 z1 z2 z3 : Int32} {lev lev1 : Nat} {F : mI → mJ → Prop} (he : EVx X mi_M_gate lev1 [.ref 0, .int z0, .int z1, .int z2, .int z3] sh I J "java/lang/IllegalStateException" F) (hlev : lev1 < lev) : EVa TT cl6 X mi_W_gate lev 1 6 [.ref 0, .int z0, .int z1, .int z2, .int z3] sh I J (fun v s I1 J1 => s = sh ∧ v = some (.int (Int32.ofInt (-900004))) ∧ F I1 J1) := by
  refine gw_enter (hx_ok hx) (by decide +kernel) (Nat.le_of_ble_eq_true rfl) (L := [(0, _), (1, _), (2, _), (3, _), (4, _)]) rfl ?_
  refine lf_aload_n d_W_gate_0 rfl rfl rfl ?_
  refine lf_iload_n d_W_gate_1 rfl rfl ?_
  refine lf_iload_n d_W_gate_2 rfl rfl ?_
  refine lf_iload_n d_W_gate_3 rfl rfl ?_
  refine lf_iload d_W_gate_4 rfl ?_
  refine gw_call s_W_gate_6 he (S := []) (kc := 0) (ks := 0) rfl (gcR_2 (c_0 hM)) hlev (by decide +kernel) (Nat.le_of_ble_eq_true rfl) (fun q => nomatch q) (fun E1 s1 I1 J1 w _ => ?_) (fun v s1 I1 J1 w _ => w.elim)
  obtain ⟨rfl, rfl, w⟩ := w
  refine h_W_gate_6_3 hx ?_
  refine lf_astore d_W_gate_25 (by decide +kernel) rfl (L2 := [(5, _), (0, _), (1, _), (2, _), (3, _), (4, _)]) rfl ?_
  refine gi_pushi s_W_gate_27 ?_
  refine gw_iret d_W_gate_29 rfl ?_
  exact ⟨rfl, rfl, w⟩
theorem w_input (hx : HX X L9 xs) {hs9 : Value} (hM : clM sh hs9) {lev lev1 kc1 ks1 : Nat} {F : Option Value → sM → mI → mJ → Prop} (he : EVa TT cl6 X mi_M_input lev1 kc1 ks1 [.ref 0] sh I J F) (hv : ∀ v s I1 J1, F v s I1 J1 → ∃ z : Int32, v = some (.int z)) (hlev : lev1 < lev) : EVa TT cl6 X mi_W_input lev kc1 ks1 [.ref 0] sh I J F := by
  refine gw_enter (hx_ok hx) (by decide +kernel) (Nat.le_of_ble_eq_true rfl) (L := [(0, _)]) rfl ?_
  refine lf_aload_n d_W_input_0 rfl rfl rfl ?_
  refine gw_callA s_W_input_1 he (S := []) rfl rfl rfl rfl (gcR_2 (c_0 hM)) hlev (by decide +kernel) (Nat.le_of_ble_eq_true rfl) (kc := 0) (ks := 0) (fun v s1 I1 J1 w _ => ?_)
  obtain ⟨z, rfl⟩ := hv v s1 I1 J1 w
  exact lf_ireturn d_W_input_4 rfl rfl ⟨s1, I1, J1, rfl, w⟩
theorem w_input_2 (hx : HX X L9 xs) {hs9 : Value} (hM : clM sh hs9) {lev lev1 : Nat} {F : mI → mJ → Prop} (he : EVx X mi_M_input lev1 [.ref 0] sh I J "java/lang/UnsupportedOperationException" F) (hlev : lev1 < lev) : EVa TT cl6 X mi_W_input lev 1 6 [.ref 0] sh I J (fun v s I1 J1 => s = sh ∧ v = some (.int (Int32.ofInt (-900001))) ∧ F I1 J1) := by
  refine gw_enter (hx_ok hx) (by decide +kernel) (Nat.le_of_ble_eq_true rfl) (L := [(0, _)]) rfl ?_
  refine lf_aload_n d_W_input_0 rfl rfl rfl ?_
  refine gw_call s_W_input_1 he (S := []) (kc := 0) (ks := 0) rfl (gcR_2 (c_0 hM)) hlev (by decide +kernel) (Nat.le_of_ble_eq_true rfl) (fun q => nomatch q) (fun E1 s1 I1 J1 w _ => ?_) (fun v s1 I1 J1 w _ => w.elim)
  obtain ⟨rfl, rfl, w⟩ := w
  refine h_W_input_1_2 hx ?_
  refine lf_astore_n d_W_input_5 rfl (by decide +kernel) rfl (L2 := [(1, _), (0, _)]) rfl ?_
  refine gi_pushi s_W_input_6 ?_
  refine gw_iret d_W_input_8 rfl ?_
  exact ⟨rfl, rfl, w⟩
theorem w_input_3 (hx : HX X L9 xs) {hs9 : Value} (hM : clM sh hs9) {lev lev1 : Nat} {F : mI → mJ → Prop} (he : EVx X mi_M_input lev1 [.ref 0] sh I J "java/lang/IllegalStateException" F) (hlev : lev1 < lev) : EVa TT cl6 X mi_W_input lev 1 6 [.ref 0] sh I J (fun v s I1 J1 => s = sh ∧ v = some (.int (Int32.ofInt (-900002))) ∧ F I1 J1) := by
  refine gw_enter (hx_ok hx) (by decide +kernel) (Nat.le_of_ble_eq_true rfl) (L := [(0, _)]) rfl ?_
  refine lf_aload_n d_W_input_0 rfl rfl rfl ?_
  refine gw_call s_W_input_1 he (S := []) (kc := 0) (ks := 0) rfl (gcR_2 (c_0 hM)) hlev (by decide +kernel) (Nat.le_of_ble_eq_true rfl) (fun q => nomatch q) (fun E1 s1 I1 J1 w _ => ?_) (fun v s1 I1 J1 w _ => w.elim)
  obtain ⟨rfl, rfl, w⟩ := w
  refine h_W_input_1_3 hx ?_
  refine lf_astore_n d_W_input_9 rfl (by decide +kernel) rfl (L2 := [(1, _), (0, _)]) rfl ?_
  refine gi_pushi s_W_input_10 ?_
  refine gw_iret d_W_input_12 rfl ?_
  exact ⟨rfl, rfl, w⟩
theorem w_isInductive (hx : HX X L9 xs) {hs9 : Value} (hM : clM sh hs9) {z0 : Int32} {lev lev1 : Nat} {F : Int → mI → mJ → Prop} (he : EVi TT cl6 X mi_M_isInductive lev1 [.ref 0, .int z0] sh I J F) (hv : ∀ r I1 J1, F r I1 J1 → r = ((0 : Nat) : Int) ∨ r = ((1 : Nat) : Int)) (hlev : lev1 < lev) : EVi TT cl6 X mi_W_isInductive lev [.ref 0, .int z0] sh I J F := by
  refine gw_enter (hx_ok hx) (by decide +kernel) (Nat.le_of_ble_eq_true rfl) (L := [(0, _), (1, _)]) rfl ?_
  refine lf_aload_n d_W_isInductive_0 rfl rfl rfl ?_
  refine lf_iload_n d_W_isInductive_1 rfl rfl ?_
  refine gw_callI s_W_isInductive_2 he (S := []) rfl rfl (gcR_2 (c_0 hM)) hlev (by decide +kernel) (Nat.le_of_ble_eq_true rfl) (fun r I J w => ?_)
  rcases hv r I J w with rfl | rfl
  · refine gi_if_eq d_W_isInductive_5 (tgt := 12) (by decide) (by omega) (fun hb5 => ?_) (fun hb5 => False.elim (by omega))
    refine lf_iconst d_W_isInductive_12 (v := Int32.ofInt ((0 : Nat) : Int)) rfl ?_
    refine gw_iret d_W_isInductive_13 rfl ?_
    exact ⟨rfl, _, rfl, w⟩
  · refine gi_if_eq d_W_isInductive_5 (tgt := 12) (by decide) (by omega) (fun hb5 => False.elim (by omega)) (fun hb5 => ?_)
    refine lf_iconst d_W_isInductive_8 (v := Int32.ofInt ((1 : Nat) : Int)) rfl ?_
    refine lf_goto d_W_isInductive_9 (tgt := 13) (by decide) ?_
    refine gw_iret d_W_isInductive_13 rfl ?_
    exact ⟨rfl, _, rfl, w⟩
theorem w_isInductive_0 (hx : HX X L9 xs) {hs9 : Value} (hM : clM sh hs9) {z0 : Int32} {lev lev1 : Nat} {F : mI → mJ → Prop} (he : EVx X mi_M_isInductive lev1 [.ref 0, .int z0] sh I J "java/lang/IllegalArgumentException" F) (hlev : lev1 < lev) : EVa TT cl6 X mi_W_isInductive lev 1 6 [.ref 0, .int z0] sh I J (fun v s I1 J1 => s = sh ∧ v = some (.int (Int32.ofInt (-900001))) ∧ F I1 J1) := by
  refine gw_enter (hx_ok hx) (by decide +kernel) (Nat.le_of_ble_eq_true rfl) (L := [(0, _), (1, _)]) rfl ?_
  refine lf_aload_n d_W_isInductive_0 rfl rfl rfl ?_
  refine lf_iload_n d_W_isInductive_1 rfl rfl ?_
  refine gw_call s_W_isInductive_2 he (S := []) (kc := 0) (ks := 0) rfl (gcR_2 (c_0 hM)) hlev (by decide +kernel) (Nat.le_of_ble_eq_true rfl) (fun q => nomatch q) (fun E1 s1 I1 J1 w _ => ?_) (fun v s1 I1 J1 w _ => w.elim)
  obtain ⟨rfl, rfl, w⟩ := w
  refine h_W_isInductive_2_0 hx ?_
  refine lf_astore_n d_W_isInductive_14 rfl (by decide +kernel) rfl (L2 := [(2, _), (0, _), (1, _)]) rfl ?_
  refine gi_pushi s_W_isInductive_15 ?_
  refine gw_iret d_W_isInductive_17 rfl ?_
  exact ⟨rfl, rfl, w⟩
theorem w_isInductive_2 (hx : HX X L9 xs) {hs9 : Value} (hM : clM sh hs9) {z0 : Int32} {lev lev1 : Nat} {F : mI → mJ → Prop} (he : EVx X mi_M_isInductive lev1 [.ref 0, .int z0] sh I J "java/lang/UnsupportedOperationException" F) (hlev : lev1 < lev) : EVa TT cl6 X mi_W_isInductive lev 1 6 [.ref 0, .int z0] sh I J (fun v s I1 J1 => s = sh ∧ v = some (.int (Int32.ofInt (-900002))) ∧ F I1 J1) := by
  refine gw_enter (hx_ok hx) (by decide +kernel) (Nat.le_of_ble_eq_true rfl) (L := [(0, _), (1, _)]) rfl ?_
  refine lf_aload_n d_W_isInductive_0 rfl rfl rfl ?_
  refine lf_iload_n d_W_isInductive_1 rfl rfl ?_
  refine gw_call s_W_isInductive_2 he (S := []) (kc := 0) (ks := 0) rfl (gcR_2 (c_0 hM)) hlev (by decide +kernel) (Nat.le_of_ble_eq_true rfl) (fun q => nomatch q) (fun E1 s1 I1 J1 w _ => ?_) (fun v s1 I1 J1 w _ => w.elim)
  obtain ⟨rfl, rfl, w⟩ := w
  refine h_W_isInductive_2_2 hx ?_
  refine lf_astore_n d_W_isInductive_18 rfl (by decide +kernel) rfl (L2 := [(2, _), (0, _), (1, _)]) rfl ?_
  refine gi_pushi s_W_isInductive_19 ?_
  refine gw_iret d_W_isInductive_21 rfl ?_
  exact ⟨rfl, rfl, w⟩
theorem w_isInvariant (hx : HX X L9 xs) {hs9 : Value} (hM : clM sh hs9) {z0 : Int32} {lev lev1 : Nat} {F : Int → mI → mJ → Prop} (he : EVi TT cl6 X mi_M_isInvariant lev1 [.ref 0, .int z0] sh I J F) (hv : ∀ r I1 J1, F r I1 J1 → r = ((0 : Nat) : Int) ∨ r = ((1 : Nat) : Int)) (hlev : lev1 < lev) : EVi TT cl6 X mi_W_isInvariant lev [.ref 0, .int z0] sh I J F := by
  refine gw_enter (hx_ok hx) (by decide +kernel) (Nat.le_of_ble_eq_true rfl) (L := [(0, _), (1, _)]) rfl ?_
  refine lf_aload_n d_W_isInvariant_0 rfl rfl rfl ?_
  refine lf_iload_n d_W_isInvariant_1 rfl rfl ?_
  refine gw_callI s_W_isInvariant_2 he (S := []) rfl rfl (gcR_2 (c_0 hM)) hlev (by decide +kernel) (Nat.le_of_ble_eq_true rfl) (fun r I J w => ?_)
  rcases hv r I J w with rfl | rfl
  · refine gi_if_eq d_W_isInvariant_5 (tgt := 12) (by decide) (by omega) (fun hb5 => ?_) (fun hb5 => False.elim (by omega))
    refine lf_iconst d_W_isInvariant_12 (v := Int32.ofInt ((0 : Nat) : Int)) rfl ?_
    refine gw_iret d_W_isInvariant_13 rfl ?_
    exact ⟨rfl, _, rfl, w⟩
  · refine gi_if_eq d_W_isInvariant_5 (tgt := 12) (by decide) (by omega) (fun hb5 => False.elim (by omega)) (fun hb5 => ?_)
    refine lf_iconst d_W_isInvariant_8 (v := Int32.ofInt ((1 : Nat) : Int)) rfl ?_
    refine lf_goto d_W_isInvariant_9 (tgt := 13) (by decide) ?_
    refine gw_iret d_W_isInvariant_13 rfl ?_
    exact ⟨rfl, _, rfl, w⟩
theorem w_isInvariant_1 (hx : HX X L9 xs) {hs9 : Value} (hM : clM sh hs9) {z0 : Int32} {lev lev1 : Nat} {F : mI → mJ → Prop} (he : EVx X mi_M_isInvariant lev1 [.ref 0, .int z0] sh I J "java/lang/IndexOutOfBoundsException" F) (hlev : lev1 < lev) : EVa TT cl6 X mi_W_isInvariant lev 1 6 [.ref 0, .int z0] sh I J (fun v s I1 J1 => s = sh ∧ v = some (.int (Int32.ofInt (-900001))) ∧ F I1 J1) := by
  refine gw_enter (hx_ok hx) (by decide +kernel) (Nat.le_of_ble_eq_true rfl) (L := [(0, _), (1, _)]) rfl ?_
  refine lf_aload_n d_W_isInvariant_0 rfl rfl rfl ?_
  refine lf_iload_n d_W_isInvariant_1 rfl rfl ?_
  refine gw_call s_W_isInvariant_2 he (S := []) (kc := 0) (ks := 0) rfl (gcR_2 (c_0 hM)) hlev (by decide +kernel) (Nat.le_of_ble_eq_true rfl) (fun q => nomatch q) (fun E1 s1 I1 J1 w _ => ?_) (fun v s1 I1 J1 w _ => w.elim)
  obtain ⟨rfl, rfl, w⟩ := w
  refine h_W_isInvariant_2_1 hx ?_
  refine lf_astore_n d_W_isInvariant_14 rfl (by decide +kernel) rfl (L2 := [(2, _), (0, _), (1, _)]) rfl ?_
  refine gi_pushi s_W_isInvariant_15 ?_
  refine gw_iret d_W_isInvariant_17 rfl ?_
  exact ⟨rfl, rfl, w⟩
theorem w_isInvariant_2 (hx : HX X L9 xs) {hs9 : Value} (hM : clM sh hs9) {z0 : Int32} {lev lev1 : Nat} {F : mI → mJ → Prop} (he : EVx X mi_M_isInvariant lev1 [.ref 0, .int z0] sh I J "java/lang/UnsupportedOperationException" F) (hlev : lev1 < lev) : EVa TT cl6 X mi_W_isInvariant lev 1 6 [.ref 0, .int z0] sh I J (fun v s I1 J1 => s = sh ∧ v = some (.int (Int32.ofInt (-900002))) ∧ F I1 J1) := by
  refine gw_enter (hx_ok hx) (by decide +kernel) (Nat.le_of_ble_eq_true rfl) (L := [(0, _), (1, _)]) rfl ?_
  refine lf_aload_n d_W_isInvariant_0 rfl rfl rfl ?_
  refine lf_iload_n d_W_isInvariant_1 rfl rfl ?_
  refine gw_call s_W_isInvariant_2 he (S := []) (kc := 0) (ks := 0) rfl (gcR_2 (c_0 hM)) hlev (by decide +kernel) (Nat.le_of_ble_eq_true rfl) (fun q => nomatch q) (fun E1 s1 I1 J1 w _ => ?_) (fun v s1 I1 J1 w _ => w.elim)
  obtain ⟨rfl, rfl, w⟩ := w
  refine h_W_isInvariant_2_2 hx ?_
  refine lf_astore_n d_W_isInvariant_18 rfl (by decide +kernel) rfl (L2 := [(2, _), (0, _), (1, _)]) rfl ?_
  refine gi_pushi s_W_isInvariant_19 ?_
  refine gw_iret d_W_isInvariant_21 rfl ?_
  exact ⟨rfl, rfl, w⟩
theorem w_literal (hx : HX X L9 xs) {hs9 : Value} (hM : clM sh hs9) {z0 : Int32} {lev lev1 kc1 ks1 : Nat} {F : Option Value → sM → mI → mJ → Prop} (he : EVa TT cl6 X mi_M_literal lev1 kc1 ks1 [.ref 0, .int z0] sh I J F) (hv : ∀ v s I1 J1, F v s I1 J1 → ∃ z : Int32, v = some (.int z)) (hlev : lev1 < lev) : EVa TT cl6 X mi_W_literal lev kc1 ks1 [.ref 0, .int z0] sh I J F := by
  refine gw_enter (hx_ok hx) (by decide +kernel) (Nat.le_of_ble_eq_true rfl) (L := [(0, _), (1, _)]) rfl ?_
  refine lf_aload_n d_W_literal_0 rfl rfl rfl ?_
  refine lf_iload_n d_W_literal_1 rfl rfl ?_
  refine gw_callA s_W_literal_2 he (S := []) rfl rfl rfl rfl (gcR_2 (c_0 hM)) hlev (by decide +kernel) (Nat.le_of_ble_eq_true rfl) (kc := 0) (ks := 0) (fun v s1 I1 J1 w _ => ?_)
  obtain ⟨z, rfl⟩ := hv v s1 I1 J1 w
  exact lf_ireturn d_W_literal_5 rfl rfl ⟨s1, I1, J1, rfl, w⟩
theorem w_literal_1 (hx : HX X L9 xs) {hs9 : Value} (hM : clM sh hs9) {z0 : Int32} {lev lev1 : Nat} {F : mI → mJ → Prop} (he : EVx X mi_M_literal lev1 [.ref 0, .int z0] sh I J "java/lang/IndexOutOfBoundsException" F) (hlev : lev1 < lev) : EVa TT cl6 X mi_W_literal lev 1 6 [.ref 0, .int z0] sh I J (fun v s I1 J1 => s = sh ∧ v = some (.int (Int32.ofInt (-900001))) ∧ F I1 J1) := by
  refine gw_enter (hx_ok hx) (by decide +kernel) (Nat.le_of_ble_eq_true rfl) (L := [(0, _), (1, _)]) rfl ?_
  refine lf_aload_n d_W_literal_0 rfl rfl rfl ?_
  refine lf_iload_n d_W_literal_1 rfl rfl ?_
  refine gw_call s_W_literal_2 he (S := []) (kc := 0) (ks := 0) rfl (gcR_2 (c_0 hM)) hlev (by decide +kernel) (Nat.le_of_ble_eq_true rfl) (fun q => nomatch q) (fun E1 s1 I1 J1 w _ => ?_) (fun v s1 I1 J1 w _ => w.elim)
  obtain ⟨rfl, rfl, w⟩ := w
  refine h_W_literal_2_1 hx ?_
  refine lf_astore_n d_W_literal_6 rfl (by decide +kernel) rfl (L2 := [(2, _), (0, _), (1, _)]) rfl ?_
  refine gi_pushi s_W_literal_7 ?_
  refine gw_iret d_W_literal_9 rfl ?_
  exact ⟨rfl, rfl, w⟩
theorem w_literal_2 (hx : HX X L9 xs) {hs9 : Value} (hM : clM sh hs9) {z0 : Int32} {lev lev1 : Nat} {F : mI → mJ → Prop} (he : EVx X mi_M_literal lev1 [.ref 0, .int z0] sh I J "java/lang/UnsupportedOperationException" F) (hlev : lev1 < lev) : EVa TT cl6 X mi_W_literal lev 1 6 [.ref 0, .int z0] sh I J (fun v s I1 J1 => s = sh ∧ v = some (.int (Int32.ofInt (-900002))) ∧ F I1 J1) := by
  refine gw_enter (hx_ok hx) (by decide +kernel) (Nat.le_of_ble_eq_true rfl) (L := [(0, _), (1, _)]) rfl ?_
  refine lf_aload_n d_W_literal_0 rfl rfl rfl ?_
  refine lf_iload_n d_W_literal_1 rfl rfl ?_
  refine gw_call s_W_literal_2 he (S := []) (kc := 0) (ks := 0) rfl (gcR_2 (c_0 hM)) hlev (by decide +kernel) (Nat.le_of_ble_eq_true rfl) (fun q => nomatch q) (fun E1 s1 I1 J1 w _ => ?_) (fun v s1 I1 J1 w _ => w.elim)
  obtain ⟨rfl, rfl, w⟩ := w
  refine h_W_literal_2_2 hx ?_
  refine lf_astore_n d_W_literal_10 rfl (by decide +kernel) rfl (L2 := [(2, _), (0, _), (1, _)]) rfl ?_
  refine gi_pushi s_W_literal_11 ?_
  refine gw_iret d_W_literal_13 rfl ?_
  exact ⟨rfl, rfl, w⟩
theorem w_output (hx : HX X L9 xs) {hs9 : Value} (hM : clM sh hs9) {z0 z1 : Int32} {lev lev1 kc1 ks1 : Nat} {F : Option Value → sM → mI → mJ → Prop} (he : EVa TT cl6 X mi_M_output lev1 kc1 ks1 [.ref 0, .int z0, .int z1] sh I J F) (hv : ∀ v s I1 J1, F v s I1 J1 → ∃ z : Int32, v = some (.int z)) (hlev : lev1 < lev) : EVa TT cl6 X mi_W_output lev kc1 ks1 [.ref 0, .int z0, .int z1] sh I J F := by
  refine gw_enter (hx_ok hx) (by decide +kernel) (Nat.le_of_ble_eq_true rfl) (L := [(0, _), (1, _), (2, _)]) rfl ?_
  refine lf_aload_n d_W_output_0 rfl rfl rfl ?_
  refine lf_iload_n d_W_output_1 rfl rfl ?_
  refine lf_iload_n d_W_output_2 rfl rfl ?_
  refine gw_callA s_W_output_3 he (S := []) rfl rfl rfl rfl (gcR_2 (c_0 hM)) hlev (by decide +kernel) (Nat.le_of_ble_eq_true rfl) (kc := 0) (ks := 0) (fun v s1 I1 J1 w _ => ?_)
  obtain ⟨z, rfl⟩ := hv v s1 I1 J1 w
  exact lf_ireturn d_W_output_6 rfl rfl ⟨s1, I1, J1, rfl, w⟩
theorem w_output_0 (hx : HX X L9 xs) {hs9 : Value} (hM : clM sh hs9) {z0 z1 : Int32} {lev lev1 : Nat} {F : mI → mJ → Prop} (he : EVx X mi_M_output lev1 [.ref 0, .int z0, .int z1] sh I J "java/lang/IllegalArgumentException" F) (hlev : lev1 < lev) : EVa TT cl6 X mi_W_output lev 1 6 [.ref 0, .int z0, .int z1] sh I J (fun v s I1 J1 => s = sh ∧ v = some (.int (Int32.ofInt (-900001))) ∧ F I1 J1) := by
  refine gw_enter (hx_ok hx) (by decide +kernel) (Nat.le_of_ble_eq_true rfl) (L := [(0, _), (1, _), (2, _)]) rfl ?_
  refine lf_aload_n d_W_output_0 rfl rfl rfl ?_
  refine lf_iload_n d_W_output_1 rfl rfl ?_
  refine lf_iload_n d_W_output_2 rfl rfl ?_
  refine gw_call s_W_output_3 he (S := []) (kc := 0) (ks := 0) rfl (gcR_2 (c_0 hM)) hlev (by decide +kernel) (Nat.le_of_ble_eq_true rfl) (fun q => nomatch q) (fun E1 s1 I1 J1 w _ => ?_) (fun v s1 I1 J1 w _ => w.elim)
  obtain ⟨rfl, rfl, w⟩ := w
  refine h_W_output_3_0 hx ?_
  refine lf_astore_n d_W_output_7 rfl (by decide +kernel) rfl (L2 := [(3, _), (0, _), (1, _), (2, _)]) rfl ?_
  refine gi_pushi s_W_output_8 ?_
  refine gw_iret d_W_output_10 rfl ?_
  exact ⟨rfl, rfl, w⟩
theorem w_output_1 (hx : HX X L9 xs) {hs9 : Value} (hM : clM sh hs9) {z0 z1 : Int32} {lev lev1 : Nat} {F : mI → mJ → Prop} (he : EVx X mi_M_output lev1 [.ref 0, .int z0, .int z1] sh I J "java/lang/IndexOutOfBoundsException" F) (hlev : lev1 < lev) : EVa TT cl6 X mi_W_output lev 1 6 [.ref 0, .int z0, .int z1] sh I J (fun v s I1 J1 => s = sh ∧ v = some (.int (Int32.ofInt (-900002))) ∧ F I1 J1) := by
  refine gw_enter (hx_ok hx) (by decide +kernel) (Nat.le_of_ble_eq_true rfl) (L := [(0, _), (1, _), (2, _)]) rfl ?_
  refine lf_aload_n d_W_output_0 rfl rfl rfl ?_
  refine lf_iload_n d_W_output_1 rfl rfl ?_
  refine lf_iload_n d_W_output_2 rfl rfl ?_
  refine gw_call s_W_output_3 he (S := []) (kc := 0) (ks := 0) rfl (gcR_2 (c_0 hM)) hlev (by decide +kernel) (Nat.le_of_ble_eq_true rfl) (fun q => nomatch q) (fun E1 s1 I1 J1 w _ => ?_) (fun v s1 I1 J1 w _ => w.elim)
  obtain ⟨rfl, rfl, w⟩ := w
  refine h_W_output_3_1 hx ?_
  refine lf_astore_n d_W_output_11 rfl (by decide +kernel) rfl (L2 := [(3, _), (0, _), (1, _), (2, _)]) rfl ?_
  refine gi_pushi s_W_output_12 ?_
  refine gw_iret d_W_output_14 rfl ?_
  exact ⟨rfl, rfl, w⟩
theorem w_output_2 (hx : HX X L9 xs) {hs9 : Value} (hM : clM sh hs9) {z0 z1 : Int32} {lev lev1 : Nat} {F : mI → mJ → Prop} (he : EVx X mi_M_output lev1 [.ref 0, .int z0, .int z1] sh I J "java/lang/UnsupportedOperationException" F) (hlev : lev1 < lev) : EVa TT cl6 X mi_W_output lev 1 6 [.ref 0, .int z0, .int z1] sh I J (fun v s I1 J1 => s = sh ∧ v = some (.int (Int32.ofInt (-900003))) ∧ F I1 J1) := by
  refine gw_enter (hx_ok hx) (by decide +kernel) (Nat.le_of_ble_eq_true rfl) (L := [(0, _), (1, _), (2, _)]) rfl ?_
  refine lf_aload_n d_W_output_0 rfl rfl rfl ?_
  refine lf_iload_n d_W_output_1 rfl rfl ?_
  refine lf_iload_n d_W_output_2 rfl rfl ?_
  refine gw_call s_W_output_3 he (S := []) (kc := 0) (ks := 0) rfl (gcR_2 (c_0 hM)) hlev (by decide +kernel) (Nat.le_of_ble_eq_true rfl) (fun q => nomatch q) (fun E1 s1 I1 J1 w _ => ?_) (fun v s1 I1 J1 w _ => w.elim)
  obtain ⟨rfl, rfl, w⟩ := w
  refine h_W_output_3_2 hx ?_
  refine lf_astore_n d_W_output_15 rfl (by decide +kernel) rfl (L2 := [(3, _), (0, _), (1, _), (2, _)]) rfl ?_
  refine gi_pushi s_W_output_16 ?_
  refine gw_iret d_W_output_18 rfl ?_
  exact ⟨rfl, rfl, w⟩
theorem w_output_3 (hx : HX X L9 xs) {hs9 : Value} (hM : clM sh hs9) {z0 z1 : Int32} {lev lev1 : Nat} {F : mI → mJ → Prop} (he : EVx X mi_M_output lev1 [.ref 0, .int z0, .int z1] sh I J "java/lang/IllegalStateException" F) (hlev : lev1 < lev) : EVa TT cl6 X mi_W_output lev 1 6 [.ref 0, .int z0, .int z1] sh I J (fun v s I1 J1 => s = sh ∧ v = some (.int (Int32.ofInt (-900004))) ∧ F I1 J1) := by
  refine gw_enter (hx_ok hx) (by decide +kernel) (Nat.le_of_ble_eq_true rfl) (L := [(0, _), (1, _), (2, _)]) rfl ?_
  refine lf_aload_n d_W_output_0 rfl rfl rfl ?_
  refine lf_iload_n d_W_output_1 rfl rfl ?_
  refine lf_iload_n d_W_output_2 rfl rfl ?_
  refine gw_call s_W_output_3 he (S := []) (kc := 0) (ks := 0) rfl (gcR_2 (c_0 hM)) hlev (by decide +kernel) (Nat.le_of_ble_eq_true rfl) (fun q => nomatch q) (fun E1 s1 I1 J1 w _ => ?_) (fun v s1 I1 J1 w _ => w.elim)
  obtain ⟨rfl, rfl, w⟩ := w
  refine h_W_output_3_3 hx ?_
  refine lf_astore_n d_W_output_19 rfl (by decide +kernel) rfl (L2 := [(3, _), (0, _), (1, _), (2, _)]) rfl ?_
  refine gi_pushi s_W_output_20 ?_
  refine gw_iret d_W_output_22 rfl ?_
  exact ⟨rfl, rfl, w⟩
theorem w_pattern (hx : HX X L9 xs) {hs9 : Value} (hM : clM sh hs9) {z0 : Int32} {lev lev1 kc1 ks1 : Nat} {F : Option Value → sM → mI → mJ → Prop} (he : EVa TT cl6 X mi_M_pattern lev1 kc1 ks1 [.ref 0, .int z0] sh I J F) (hv : ∀ v s I1 J1, F v s I1 J1 → ∃ z : Int32, v = some (.int z)) (hlev : lev1 < lev) : EVa TT cl6 X mi_W_pattern lev kc1 ks1 [.ref 0, .int z0] sh I J F := by
  refine gw_enter (hx_ok hx) (by decide +kernel) (Nat.le_of_ble_eq_true rfl) (L := [(0, _), (1, _)]) rfl ?_
  refine lf_aload_n d_W_pattern_0 rfl rfl rfl ?_
  refine lf_iload_n d_W_pattern_1 rfl rfl ?_
  refine gw_callA s_W_pattern_2 he (S := []) rfl rfl rfl rfl (gcR_2 (c_0 hM)) hlev (by decide +kernel) (Nat.le_of_ble_eq_true rfl) (kc := 0) (ks := 0) (fun v s1 I1 J1 w _ => ?_)
  obtain ⟨z, rfl⟩ := hv v s1 I1 J1 w
  exact lf_ireturn d_W_pattern_5 rfl rfl ⟨s1, I1, J1, rfl, w⟩
theorem w_pattern_0 (hx : HX X L9 xs) {hs9 : Value} (hM : clM sh hs9) {z0 : Int32} {lev lev1 : Nat} {F : mI → mJ → Prop} (he : EVx X mi_M_pattern lev1 [.ref 0, .int z0] sh I J "java/lang/IllegalArgumentException" F) (hlev : lev1 < lev) : EVa TT cl6 X mi_W_pattern lev 1 6 [.ref 0, .int z0] sh I J (fun v s I1 J1 => s = sh ∧ v = some (.int (Int32.ofInt (-900001))) ∧ F I1 J1) := by
  refine gw_enter (hx_ok hx) (by decide +kernel) (Nat.le_of_ble_eq_true rfl) (L := [(0, _), (1, _)]) rfl ?_
  refine lf_aload_n d_W_pattern_0 rfl rfl rfl ?_
  refine lf_iload_n d_W_pattern_1 rfl rfl ?_
  refine gw_call s_W_pattern_2 he (S := []) (kc := 0) (ks := 0) rfl (gcR_2 (c_0 hM)) hlev (by decide +kernel) (Nat.le_of_ble_eq_true rfl) (fun q => nomatch q) (fun E1 s1 I1 J1 w _ => ?_) (fun v s1 I1 J1 w _ => w.elim)
  obtain ⟨rfl, rfl, w⟩ := w
  refine h_W_pattern_2_0 hx ?_
  refine lf_astore_n d_W_pattern_6 rfl (by decide +kernel) rfl (L2 := [(2, _), (0, _), (1, _)]) rfl ?_
  refine gi_pushi s_W_pattern_7 ?_
  refine gw_iret d_W_pattern_9 rfl ?_
  exact ⟨rfl, rfl, w⟩
theorem w_pattern_2 (hx : HX X L9 xs) {hs9 : Value} (hM : clM sh hs9) {z0 : Int32} {lev lev1 : Nat} {F : mI → mJ → Prop} (he : EVx X mi_M_pattern lev1 [.ref 0, .int z0] sh I J "java/lang/UnsupportedOperationException" F) (hlev : lev1 < lev) : EVa TT cl6 X mi_W_pattern lev 1 6 [.ref 0, .int z0] sh I J (fun v s I1 J1 => s = sh ∧ v = some (.int (Int32.ofInt (-900002))) ∧ F I1 J1) := by
  refine gw_enter (hx_ok hx) (by decide +kernel) (Nat.le_of_ble_eq_true rfl) (L := [(0, _), (1, _)]) rfl ?_
  refine lf_aload_n d_W_pattern_0 rfl rfl rfl ?_
  refine lf_iload_n d_W_pattern_1 rfl rfl ?_
  refine gw_call s_W_pattern_2 he (S := []) (kc := 0) (ks := 0) rfl (gcR_2 (c_0 hM)) hlev (by decide +kernel) (Nat.le_of_ble_eq_true rfl) (fun q => nomatch q) (fun E1 s1 I1 J1 w _ => ?_) (fun v s1 I1 J1 w _ => w.elim)
  obtain ⟨rfl, rfl, w⟩ := w
  refine h_W_pattern_2_2 hx ?_
  refine lf_astore_n d_W_pattern_10 rfl (by decide +kernel) rfl (L2 := [(2, _), (0, _), (1, _)]) rfl ?_
  refine gi_pushi s_W_pattern_11 ?_
  refine gw_iret d_W_pattern_13 rfl ?_
  exact ⟨rfl, rfl, w⟩
theorem w_pattern_3 (hx : HX X L9 xs) {hs9 : Value} (hM : clM sh hs9) {z0 : Int32} {lev lev1 : Nat} {F : mI → mJ → Prop} (he : EVx X mi_M_pattern lev1 [.ref 0, .int z0] sh I J "java/lang/IllegalStateException" F) (hlev : lev1 < lev) : EVa TT cl6 X mi_W_pattern lev 1 6 [.ref 0, .int z0] sh I J (fun v s I1 J1 => s = sh ∧ v = some (.int (Int32.ofInt (-900003))) ∧ F I1 J1) := by
  refine gw_enter (hx_ok hx) (by decide +kernel) (Nat.le_of_ble_eq_true rfl) (L := [(0, _), (1, _)]) rfl ?_
  refine lf_aload_n d_W_pattern_0 rfl rfl rfl ?_
  refine lf_iload_n d_W_pattern_1 rfl rfl ?_
  refine gw_call s_W_pattern_2 he (S := []) (kc := 0) (ks := 0) rfl (gcR_2 (c_0 hM)) hlev (by decide +kernel) (Nat.le_of_ble_eq_true rfl) (fun q => nomatch q) (fun E1 s1 I1 J1 w _ => ?_) (fun v s1 I1 J1 w _ => w.elim)
  obtain ⟨rfl, rfl, w⟩ := w
  refine h_W_pattern_2_3 hx ?_
  refine lf_astore_n d_W_pattern_14 rfl (by decide +kernel) rfl (L2 := [(2, _), (0, _), (1, _)]) rfl ?_
  refine gi_pushi s_W_pattern_15 ?_
  refine gw_iret d_W_pattern_17 rfl ?_
  exact ⟨rfl, rfl, w⟩
theorem w_proof (hx : HX X L9 xs) {hs9 : Value} (hM : clM sh hs9) {z0 z1 z2 : Int32} {lev lev1 kc1 ks1 : Nat} {F : Option Value → sM → mI → mJ → Prop} (he : EVa TT cl6 X mi_M_proof lev1 kc1 ks1 [.ref 0, .int z0, .int z1, .int z2] sh I J F) (hv : ∀ v s I1 J1, F v s I1 J1 → ∃ z : Int32, v = some (.int z)) (hlev : lev1 < lev) : EVa TT cl6 X mi_W_proof lev kc1 ks1 [.ref 0, .int z0, .int z1, .int z2] sh I J F := by
  refine gw_enter (hx_ok hx) (by decide +kernel) (Nat.le_of_ble_eq_true rfl) (L := [(0, _), (1, _), (2, _), (3, _)]) rfl ?_
  refine lf_aload_n d_W_proof_0 rfl rfl rfl ?_
  refine lf_iload_n d_W_proof_1 rfl rfl ?_
  refine lf_iload_n d_W_proof_2 rfl rfl ?_
  refine lf_iload_n d_W_proof_3 rfl rfl ?_
  refine gw_callA s_W_proof_4 he (S := []) rfl rfl rfl rfl (gcR_2 (c_0 hM)) hlev (by decide +kernel) (Nat.le_of_ble_eq_true rfl) (kc := 0) (ks := 0) (fun v s1 I1 J1 w _ => ?_)
  obtain ⟨z, rfl⟩ := hv v s1 I1 J1 w
  exact lf_ireturn d_W_proof_7 rfl rfl ⟨s1, I1, J1, rfl, w⟩
theorem w_proof_1 (hx : HX X L9 xs) {hs9 : Value} (hM : clM sh hs9) {z0 z1 z2 : Int32} {lev lev1 : Nat} {F : mI → mJ → Prop} (he : EVx X mi_M_proof lev1 [.ref 0, .int z0, .int z1, .int z2] sh I J "java/lang/IndexOutOfBoundsException" F) (hlev : lev1 < lev) : EVa TT cl6 X mi_W_proof lev 1 6 [.ref 0, .int z0, .int z1, .int z2] sh I J (fun v s I1 J1 => s = sh ∧ v = some (.int (Int32.ofInt (-900001))) ∧ F I1 J1) := by
  refine gw_enter (hx_ok hx) (by decide +kernel) (Nat.le_of_ble_eq_true rfl) (L := [(0, _), (1, _), (2, _), (3, _)]) rfl ?_
  refine lf_aload_n d_W_proof_0 rfl rfl rfl ?_
  refine lf_iload_n d_W_proof_1 rfl rfl ?_
  refine lf_iload_n d_W_proof_2 rfl rfl ?_
  refine lf_iload_n d_W_proof_3 rfl rfl ?_
  refine gw_call s_W_proof_4 he (S := []) (kc := 0) (ks := 0) rfl (gcR_2 (c_0 hM)) hlev (by decide +kernel) (Nat.le_of_ble_eq_true rfl) (fun q => nomatch q) (fun E1 s1 I1 J1 w _ => ?_) (fun v s1 I1 J1 w _ => w.elim)
  obtain ⟨rfl, rfl, w⟩ := w
  refine h_W_proof_4_1 hx ?_
  refine lf_astore d_W_proof_8 (by decide +kernel) rfl (L2 := [(4, _), (0, _), (1, _), (2, _), (3, _)]) rfl ?_
  refine gi_pushi s_W_proof_10 ?_
  refine gw_iret d_W_proof_12 rfl ?_
  exact ⟨rfl, rfl, w⟩
theorem w_proof_2 (hx : HX X L9 xs) {hs9 : Value} (hM : clM sh hs9) {z0 z1 z2 : Int32} {lev lev1 : Nat} {F : mI → mJ → Prop} (he : EVx X mi_M_proof lev1 [.ref 0, .int z0, .int z1, .int z2] sh I J "java/lang/UnsupportedOperationException" F) (hlev : lev1 < lev) : EVa TT cl6 X mi_W_proof lev 1 6 [.ref 0, .int z0, .int z1, .int z2] sh I J (fun v s I1 J1 => s = sh ∧ v = some (.int (Int32.ofInt (-900002))) ∧ F I1 J1) := by
  refine gw_enter (hx_ok hx) (by decide +kernel) (Nat.le_of_ble_eq_true rfl) (L := [(0, _), (1, _), (2, _), (3, _)]) rfl ?_
  refine lf_aload_n d_W_proof_0 rfl rfl rfl ?_
  refine lf_iload_n d_W_proof_1 rfl rfl ?_
  refine lf_iload_n d_W_proof_2 rfl rfl ?_
  refine lf_iload_n d_W_proof_3 rfl rfl ?_
  refine gw_call s_W_proof_4 he (S := []) (kc := 0) (ks := 0) rfl (gcR_2 (c_0 hM)) hlev (by decide +kernel) (Nat.le_of_ble_eq_true rfl) (fun q => nomatch q) (fun E1 s1 I1 J1 w _ => ?_) (fun v s1 I1 J1 w _ => w.elim)
  obtain ⟨rfl, rfl, w⟩ := w
  refine h_W_proof_4_2 hx ?_
  refine lf_astore d_W_proof_13 (by decide +kernel) rfl (L2 := [(4, _), (0, _), (1, _), (2, _), (3, _)]) rfl ?_
  refine gi_pushi s_W_proof_15 ?_
  refine gw_iret d_W_proof_17 rfl ?_
  exact ⟨rfl, rfl, w⟩
theorem w_proof_4 (hx : HX X L9 xs) {hs9 : Value} (hM : clM sh hs9) {z0 z1 z2 : Int32} {lev lev1 : Nat} {F : mI → mJ → Prop} (he : EVx X mi_M_proof lev1 [.ref 0, .int z0, .int z1, .int z2] sh I J "java/util/NoSuchElementException" F) (hlev : lev1 < lev) : EVa TT cl6 X mi_W_proof lev 1 6 [.ref 0, .int z0, .int z1, .int z2] sh I J (fun v s I1 J1 => s = sh ∧ v = some (.int (Int32.ofInt (-900003))) ∧ F I1 J1) := by
  refine gw_enter (hx_ok hx) (by decide +kernel) (Nat.le_of_ble_eq_true rfl) (L := [(0, _), (1, _), (2, _), (3, _)]) rfl ?_
  refine lf_aload_n d_W_proof_0 rfl rfl rfl ?_
  refine lf_iload_n d_W_proof_1 rfl rfl ?_
  refine lf_iload_n d_W_proof_2 rfl rfl ?_
  refine lf_iload_n d_W_proof_3 rfl rfl ?_
  refine gw_call s_W_proof_4 he (S := []) (kc := 0) (ks := 0) rfl (gcR_2 (c_0 hM)) hlev (by decide +kernel) (Nat.le_of_ble_eq_true rfl) (fun q => nomatch q) (fun E1 s1 I1 J1 w _ => ?_) (fun v s1 I1 J1 w _ => w.elim)
  obtain ⟨rfl, rfl, w⟩ := w
  refine h_W_proof_4_4 hx ?_
  refine lf_astore d_W_proof_18 (by decide +kernel) rfl (L2 := [(4, _), (0, _), (1, _), (2, _), (3, _)]) rfl ?_
  refine gi_pushi s_W_proof_20 ?_
  refine gw_iret d_W_proof_22 rfl ?_
  exact ⟨rfl, rfl, w⟩
theorem w_prove (hx : HX X L9 xs) {hs9 : Value} (hM : clM sh hs9) {z0 z1 z2 z3 : Int32} {lev lev1 kc1 ks1 : Nat} {F : Option Value → sM → mI → mJ → Prop} (he : EVa TT cl6 X mi_M_prove lev1 kc1 ks1 [.ref 0, .int z0, .int z1, .int z2, .int z3] sh I J F) (hv : ∀ v s I1 J1, F v s I1 J1 → ∃ z : Int32, v = some (.int z)) (hlev : lev1 < lev) : EVa TT cl6 X mi_W_prove lev kc1 ks1 [.ref 0, .int z0, .int z1, .int z2, .int z3] sh I J F := by
  refine gw_enter (hx_ok hx) (by decide +kernel) (Nat.le_of_ble_eq_true rfl) (L := [(0, _), (1, _), (2, _), (3, _), (4, _)]) rfl ?_
  refine lf_aload_n d_W_prove_0 rfl rfl rfl ?_
  refine lf_iload_n d_W_prove_1 rfl rfl ?_
  refine lf_iload_n d_W_prove_2 rfl rfl ?_
  refine lf_iload_n d_W_prove_3 rfl rfl ?_
  refine lf_iload d_W_prove_4 rfl ?_
  refine gw_callA s_W_prove_6 he (S := []) rfl rfl rfl rfl (gcR_2 (c_0 hM)) hlev (by decide +kernel) (Nat.le_of_ble_eq_true rfl) (kc := 0) (ks := 0) (fun v s1 I1 J1 w _ => ?_)
  obtain ⟨z, rfl⟩ := hv v s1 I1 J1 w
  exact lf_ireturn d_W_prove_9 rfl rfl ⟨s1, I1, J1, rfl, w⟩
theorem w_prove_0 (hx : HX X L9 xs) {hs9 : Value} (hM : clM sh hs9) {z0 z1 z2 z3 : Int32} {lev lev1 : Nat} {F : mI → mJ → Prop} (he : EVx X mi_M_prove lev1 [.ref 0, .int z0, .int z1, .int z2, .int z3] sh I J "java/lang/IllegalArgumentException" F) (hlev : lev1 < lev) : EVa TT cl6 X mi_W_prove lev 1 6 [.ref 0, .int z0, .int z1, .int z2, .int z3] sh I J (fun v s I1 J1 => s = sh ∧ v = some (.int (Int32.ofInt (-900002))) ∧ F I1 J1) := by
  refine gw_enter (hx_ok hx) (by decide +kernel) (Nat.le_of_ble_eq_true rfl) (L := [(0, _), (1, _), (2, _), (3, _), (4, _)]) rfl ?_
  refine lf_aload_n d_W_prove_0 rfl rfl rfl ?_
  refine lf_iload_n d_W_prove_1 rfl rfl ?_
  refine lf_iload_n d_W_prove_2 rfl rfl ?_
  refine lf_iload_n d_W_prove_3 rfl rfl ?_
  refine lf_iload d_W_prove_4 rfl ?_
  refine gw_call s_W_prove_6 he (S := []) (kc := 0) (ks := 0) rfl (gcR_2 (c_0 hM)) hlev (by decide +kernel) (Nat.le_of_ble_eq_true rfl) (fun q => nomatch q) (fun E1 s1 I1 J1 w _ => ?_) (fun v s1 I1 J1 w _ => w.elim)
  obtain ⟨rfl, rfl, w⟩ := w
  refine h_W_prove_6_0 hx ?_
  refine lf_astore d_W_prove_15 (by decide +kernel) rfl (L2 := [(5, _), (0, _), (1, _), (2, _), (3, _), (4, _)]) rfl ?_
  refine gi_pushi s_W_prove_17 ?_
  refine gw_iret d_W_prove_19 rfl ?_
  exact ⟨rfl, rfl, w⟩
theorem w_prove_1 (hx : HX X L9 xs) {hs9 : Value} (hM : clM sh hs9) {z0 z1 z2 z3 : Int32} {lev lev1 : Nat} {F : mI → mJ → Prop} (he : EVx X mi_M_prove lev1 [.ref 0, .int z0, .int z1, .int z2, .int z3] sh I J "java/lang/IndexOutOfBoundsException" F) (hlev : lev1 < lev) : EVa TT cl6 X mi_W_prove lev 1 6 [.ref 0, .int z0, .int z1, .int z2, .int z3] sh I J (fun v s I1 J1 => s = sh ∧ v = some (.int (Int32.ofInt (-900001))) ∧ F I1 J1) := by
  refine gw_enter (hx_ok hx) (by decide +kernel) (Nat.le_of_ble_eq_true rfl) (L := [(0, _), (1, _), (2, _), (3, _), (4, _)]) rfl ?_
  refine lf_aload_n d_W_prove_0 rfl rfl rfl ?_
  refine lf_iload_n d_W_prove_1 rfl rfl ?_
  refine lf_iload_n d_W_prove_2 rfl rfl ?_
  refine lf_iload_n d_W_prove_3 rfl rfl ?_
  refine lf_iload d_W_prove_4 rfl ?_
  refine gw_call s_W_prove_6 he (S := []) (kc := 0) (ks := 0) rfl (gcR_2 (c_0 hM)) hlev (by decide +kernel) (Nat.le_of_ble_eq_true rfl) (fun q => nomatch q) (fun E1 s1 I1 J1 w _ => ?_) (fun v s1 I1 J1 w _ => w.elim)
  obtain ⟨rfl, rfl, w⟩ := w
  refine h_W_prove_6_1 hx ?_
  refine lf_astore d_W_prove_10 (by decide +kernel) rfl (L2 := [(5, _), (0, _), (1, _), (2, _), (3, _), (4, _)]) rfl ?_
  refine gi_pushi s_W_prove_12 ?_
  refine gw_iret d_W_prove_14 rfl ?_
  exact ⟨rfl, rfl, w⟩
theorem w_prove_2 (hx : HX X L9 xs) {hs9 : Value} (hM : clM sh hs9) {z0 z1 z2 z3 : Int32} {lev lev1 : Nat} {F : mI → mJ → Prop} (he : EVx X mi_M_prove lev1 [.ref 0, .int z0, .int z1, .int z2, .int z3] sh I J "java/lang/UnsupportedOperationException" F) (hlev : lev1 < lev) : EVa TT cl6 X mi_W_prove lev 1 6 [.ref 0, .int z0, .int z1, .int z2, .int z3] sh I J (fun v s I1 J1 => s = sh ∧ v = some (.int (Int32.ofInt (-900003))) ∧ F I1 J1) := by
  refine gw_enter (hx_ok hx) (by decide +kernel) (Nat.le_of_ble_eq_true rfl) (L := [(0, _), (1, _), (2, _), (3, _), (4, _)]) rfl ?_
  refine lf_aload_n d_W_prove_0 rfl rfl rfl ?_
  refine lf_iload_n d_W_prove_1 rfl rfl ?_
  refine lf_iload_n d_W_prove_2 rfl rfl ?_
  refine lf_iload_n d_W_prove_3 rfl rfl ?_
  refine lf_iload d_W_prove_4 rfl ?_
  refine gw_call s_W_prove_6 he (S := []) (kc := 0) (ks := 0) rfl (gcR_2 (c_0 hM)) hlev (by decide +kernel) (Nat.le_of_ble_eq_true rfl) (fun q => nomatch q) (fun E1 s1 I1 J1 w _ => ?_) (fun v s1 I1 J1 w _ => w.elim)
  obtain ⟨rfl, rfl, w⟩ := w
  refine h_W_prove_6_2 hx ?_
  refine lf_astore d_W_prove_20 (by decide +kernel) rfl (L2 := [(5, _), (0, _), (1, _), (2, _), (3, _), (4, _)]) rfl ?_
  refine gi_pushi s_W_prove_22 ?_
  refine gw_iret d_W_prove_24 rfl ?_
  exact ⟨rfl, rfl, w⟩
theorem w_reached (hx : HX X L9 xs) {hs9 : Value} (hM : clM sh hs9) {lev lev1 kc1 ks1 : Nat} {F : Option Value → sM → mI → mJ → Prop} (he : EVa TT cl6 X mi_M_reached lev1 kc1 ks1 [.ref 0] sh I J F) (hv : ∀ v s I1 J1, F v s I1 J1 → ∃ z : Int32, v = some (.int z)) (hlev : lev1 < lev) : EVa TT cl6 X mi_W_reached lev kc1 ks1 [.ref 0] sh I J F := by
  refine gw_enter (hx_ok hx) (by decide +kernel) (Nat.le_of_ble_eq_true rfl) (L := [(0, _)]) rfl ?_
  refine lf_aload_n d_W_reached_0 rfl rfl rfl ?_
  refine gw_callA s_W_reached_1 he (S := []) rfl rfl rfl rfl (gcR_2 (c_0 hM)) hlev (by decide +kernel) (Nat.le_of_ble_eq_true rfl) (kc := 0) (ks := 0) (fun v s1 I1 J1 w _ => ?_)
  obtain ⟨z, rfl⟩ := hv v s1 I1 J1 w
  exact lf_ireturn d_W_reached_4 rfl rfl ⟨s1, I1, J1, rfl, w⟩
theorem w_reached_2 (hx : HX X L9 xs) {hs9 : Value} (hM : clM sh hs9) {lev lev1 : Nat} {F : mI → mJ → Prop} (he : EVx X mi_M_reached lev1 [.ref 0] sh I J "java/lang/UnsupportedOperationException" F) (hlev : lev1 < lev) : EVa TT cl6 X mi_W_reached lev 1 6 [.ref 0] sh I J (fun v s I1 J1 => s = sh ∧ v = some (.int (Int32.ofInt (-900001))) ∧ F I1 J1) := by
  refine gw_enter (hx_ok hx) (by decide +kernel) (Nat.le_of_ble_eq_true rfl) (L := [(0, _)]) rfl ?_
  refine lf_aload_n d_W_reached_0 rfl rfl rfl ?_
  refine gw_call s_W_reached_1 he (S := []) (kc := 0) (ks := 0) rfl (gcR_2 (c_0 hM)) hlev (by decide +kernel) (Nat.le_of_ble_eq_true rfl) (fun q => nomatch q) (fun E1 s1 I1 J1 w _ => ?_) (fun v s1 I1 J1 w _ => w.elim)
  obtain ⟨rfl, rfl, w⟩ := w
  refine h_W_reached_1_2 hx ?_
  refine lf_astore_n d_W_reached_5 rfl (by decide +kernel) rfl (L2 := [(1, _), (0, _)]) rfl ?_
  refine gi_pushi s_W_reached_6 ?_
  refine gw_iret d_W_reached_8 rfl ?_
  exact ⟨rfl, rfl, w⟩
theorem w_run (hx : HX X L9 xs) {hs9 : Value} (hM : clM sh hs9) {z0 z1 z2 : Int32} {lev lev1 kc1 ks1 : Nat} {F : Option Value → sM → mI → mJ → Prop} (he : EVa TT cl6 X mi_M_run lev1 kc1 ks1 [.ref 0, .int z0, .int z1, .int z2] sh I J F) (hv : ∀ v s I1 J1, F v s I1 J1 → ∃ z : Int32, v = some (.int z)) (hlev : lev1 < lev) : EVa TT cl6 X mi_W_run lev kc1 ks1 [.ref 0, .int z0, .int z1, .int z2] sh I J F := by
  refine gw_enter (hx_ok hx) (by decide +kernel) (Nat.le_of_ble_eq_true rfl) (L := [(0, _), (1, _), (2, _), (3, _)]) rfl ?_
  refine lf_aload_n d_W_run_0 rfl rfl rfl ?_
  refine lf_iload_n d_W_run_1 rfl rfl ?_
  refine lf_iload_n d_W_run_2 rfl rfl ?_
  refine lf_iload_n d_W_run_3 rfl rfl ?_
  refine gw_callA s_W_run_4 he (S := []) rfl rfl rfl rfl (gcR_2 (c_0 hM)) hlev (by decide +kernel) (Nat.le_of_ble_eq_true rfl) (kc := 0) (ks := 0) (fun v s1 I1 J1 w _ => ?_)
  obtain ⟨z, rfl⟩ := hv v s1 I1 J1 w
  exact lf_ireturn d_W_run_7 rfl rfl ⟨s1, I1, J1, rfl, w⟩
theorem w_run_0 (hx : HX X L9 xs) {hs9 : Value} (hM : clM sh hs9) {z0 z1 z2 : Int32} {lev lev1 : Nat} {F : mI → mJ → Prop} (he : EVx X mi_M_run lev1 [.ref 0, .int z0, .int z1, .int z2] sh I J "java/lang/IllegalArgumentException" F) (hlev : lev1 < lev) : EVa TT cl6 X mi_W_run lev 1 6 [.ref 0, .int z0, .int z1, .int z2] sh I J (fun v s I1 J1 => s = sh ∧ v = some (.int (Int32.ofInt (-900001))) ∧ F I1 J1) := by
  refine gw_enter (hx_ok hx) (by decide +kernel) (Nat.le_of_ble_eq_true rfl) (L := [(0, _), (1, _), (2, _), (3, _)]) rfl ?_
  refine lf_aload_n d_W_run_0 rfl rfl rfl ?_
  refine lf_iload_n d_W_run_1 rfl rfl ?_
  refine lf_iload_n d_W_run_2 rfl rfl ?_
  refine lf_iload_n d_W_run_3 rfl rfl ?_
  refine gw_call s_W_run_4 he (S := []) (kc := 0) (ks := 0) rfl (gcR_2 (c_0 hM)) hlev (by decide +kernel) (Nat.le_of_ble_eq_true rfl) (fun q => nomatch q) (fun E1 s1 I1 J1 w _ => ?_) (fun v s1 I1 J1 w _ => w.elim)
  obtain ⟨rfl, rfl, w⟩ := w
  refine h_W_run_4_0 hx ?_
  refine lf_astore d_W_run_8 (by decide +kernel) rfl (L2 := [(4, _), (0, _), (1, _), (2, _), (3, _)]) rfl ?_
  refine gi_pushi s_W_run_10 ?_
  refine gw_iret d_W_run_12 rfl ?_
  exact ⟨rfl, rfl, w⟩
theorem w_run_2 (hx : HX X L9 xs) {hs9 : Value} (hM : clM sh hs9) {z0 z1 z2 : Int32} {lev lev1 : Nat} {F : mI → mJ → Prop} (he : EVx X mi_M_run lev1 [.ref 0, .int z0, .int z1, .int z2] sh I J "java/lang/UnsupportedOperationException" F) (hlev : lev1 < lev) : EVa TT cl6 X mi_W_run lev 1 6 [.ref 0, .int z0, .int z1, .int z2] sh I J (fun v s I1 J1 => s = sh ∧ v = some (.int (Int32.ofInt (-900002))) ∧ F I1 J1) := by
  refine gw_enter (hx_ok hx) (by decide +kernel) (Nat.le_of_ble_eq_true rfl) (L := [(0, _), (1, _), (2, _), (3, _)]) rfl ?_
  refine lf_aload_n d_W_run_0 rfl rfl rfl ?_
  refine lf_iload_n d_W_run_1 rfl rfl ?_
  refine lf_iload_n d_W_run_2 rfl rfl ?_
  refine lf_iload_n d_W_run_3 rfl rfl ?_
  refine gw_call s_W_run_4 he (S := []) (kc := 0) (ks := 0) rfl (gcR_2 (c_0 hM)) hlev (by decide +kernel) (Nat.le_of_ble_eq_true rfl) (fun q => nomatch q) (fun E1 s1 I1 J1 w _ => ?_) (fun v s1 I1 J1 w _ => w.elim)
  obtain ⟨rfl, rfl, w⟩ := w
  refine h_W_run_4_2 hx ?_
  refine lf_astore d_W_run_13 (by decide +kernel) rfl (L2 := [(4, _), (0, _), (1, _), (2, _), (3, _)]) rfl ?_
  refine gi_pushi s_W_run_15 ?_
  refine gw_iret d_W_run_17 rfl ?_
  exact ⟨rfl, rfl, w⟩
theorem w_sweep (hx : HX X L9 xs) {hs9 : Value} (hM : clM sh hs9) {z0 : Int32} {lev lev1 kc1 ks1 : Nat} {F : Option Value → sM → mI → mJ → Prop} (he : EVa TT cl6 X mi_M_sweep lev1 kc1 ks1 [.ref 0, .int z0] sh I J F) (hv : ∀ v s I1 J1, F v s I1 J1 → ∃ z : Int32, v = some (.int z)) (hlev : lev1 < lev) : EVa TT cl6 X mi_W_sweep lev kc1 ks1 [.ref 0, .int z0] sh I J F := by
  refine gw_enter (hx_ok hx) (by decide +kernel) (Nat.le_of_ble_eq_true rfl) (L := [(0, _), (1, _)]) rfl ?_
  refine lf_aload_n d_W_sweep_0 rfl rfl rfl ?_
  refine lf_iload_n d_W_sweep_1 rfl rfl ?_
  refine gw_callA s_W_sweep_2 he (S := []) rfl rfl rfl rfl (gcR_2 (c_0 hM)) hlev (by decide +kernel) (Nat.le_of_ble_eq_true rfl) (kc := 0) (ks := 0) (fun v s1 I1 J1 w _ => ?_)
  obtain ⟨z, rfl⟩ := hv v s1 I1 J1 w
  exact lf_ireturn d_W_sweep_5 rfl rfl ⟨s1, I1, J1, rfl, w⟩
theorem w_sweep_0 (hx : HX X L9 xs) {hs9 : Value} (hM : clM sh hs9) {z0 : Int32} {lev lev1 : Nat} {F : mI → mJ → Prop} (he : EVx X mi_M_sweep lev1 [.ref 0, .int z0] sh I J "java/lang/IllegalArgumentException" F) (hlev : lev1 < lev) : EVa TT cl6 X mi_W_sweep lev 1 6 [.ref 0, .int z0] sh I J (fun v s I1 J1 => s = sh ∧ v = some (.int (Int32.ofInt (-900001))) ∧ F I1 J1) := by
  refine gw_enter (hx_ok hx) (by decide +kernel) (Nat.le_of_ble_eq_true rfl) (L := [(0, _), (1, _)]) rfl ?_
  refine lf_aload_n d_W_sweep_0 rfl rfl rfl ?_
  refine lf_iload_n d_W_sweep_1 rfl rfl ?_
  refine gw_call s_W_sweep_2 he (S := []) (kc := 0) (ks := 0) rfl (gcR_2 (c_0 hM)) hlev (by decide +kernel) (Nat.le_of_ble_eq_true rfl) (fun q => nomatch q) (fun E1 s1 I1 J1 w _ => ?_) (fun v s1 I1 J1 w _ => w.elim)
  obtain ⟨rfl, rfl, w⟩ := w
  refine h_W_sweep_2_0 hx ?_
  refine lf_astore_n d_W_sweep_6 rfl (by decide +kernel) rfl (L2 := [(2, _), (0, _), (1, _)]) rfl ?_
  refine gi_pushi s_W_sweep_7 ?_
  refine gw_iret d_W_sweep_9 rfl ?_
  exact ⟨rfl, rfl, w⟩
theorem w_sweep_2 (hx : HX X L9 xs) {hs9 : Value} (hM : clM sh hs9) {z0 : Int32} {lev lev1 : Nat} {F : mI → mJ → Prop} (he : EVx X mi_M_sweep lev1 [.ref 0, .int z0] sh I J "java/lang/UnsupportedOperationException" F) (hlev : lev1 < lev) : EVa TT cl6 X mi_W_sweep lev 1 6 [.ref 0, .int z0] sh I J (fun v s I1 J1 => s = sh ∧ v = some (.int (Int32.ofInt (-900002))) ∧ F I1 J1) := by
  refine gw_enter (hx_ok hx) (by decide +kernel) (Nat.le_of_ble_eq_true rfl) (L := [(0, _), (1, _)]) rfl ?_
  refine lf_aload_n d_W_sweep_0 rfl rfl rfl ?_
  refine lf_iload_n d_W_sweep_1 rfl rfl ?_
  refine gw_call s_W_sweep_2 he (S := []) (kc := 0) (ks := 0) rfl (gcR_2 (c_0 hM)) hlev (by decide +kernel) (Nat.le_of_ble_eq_true rfl) (fun q => nomatch q) (fun E1 s1 I1 J1 w _ => ?_) (fun v s1 I1 J1 w _ => w.elim)
  obtain ⟨rfl, rfl, w⟩ := w
  refine h_W_sweep_2_2 hx ?_
  refine lf_astore_n d_W_sweep_10 rfl (by decide +kernel) rfl (L2 := [(2, _), (0, _), (1, _)]) rfl ?_
  refine gi_pushi s_W_sweep_11 ?_
  refine gw_iret d_W_sweep_13 rfl ?_
  exact ⟨rfl, rfl, w⟩
theorem w_trace (hx : HX X L9 xs) {hs9 : Value} (hM : clM sh hs9) {z0 : Int32} {lev lev1 kc1 ks1 : Nat} {F : Option Value → sM → mI → mJ → Prop} (he : EVa TT cl6 X mi_M_trace lev1 kc1 ks1 [.ref 0, .int z0] sh I J F) (hv : ∀ v s I1 J1, F v s I1 J1 → ∃ z : Int32, v = some (.int z)) (hlev : lev1 < lev) : EVa TT cl6 X mi_W_trace lev kc1 ks1 [.ref 0, .int z0] sh I J F := by
  refine gw_enter (hx_ok hx) (by decide +kernel) (Nat.le_of_ble_eq_true rfl) (L := [(0, _), (1, _)]) rfl ?_
  refine lf_aload_n d_W_trace_0 rfl rfl rfl ?_
  refine lf_iload_n d_W_trace_1 rfl rfl ?_
  refine gw_callA s_W_trace_2 he (S := []) rfl rfl rfl rfl (gcR_2 (c_0 hM)) hlev (by decide +kernel) (Nat.le_of_ble_eq_true rfl) (kc := 0) (ks := 0) (fun v s1 I1 J1 w _ => ?_)
  obtain ⟨z, rfl⟩ := hv v s1 I1 J1 w
  exact lf_ireturn d_W_trace_5 rfl rfl ⟨s1, I1, J1, rfl, w⟩
theorem w_trace_2 (hx : HX X L9 xs) {hs9 : Value} (hM : clM sh hs9) {z0 : Int32} {lev lev1 : Nat} {F : mI → mJ → Prop} (he : EVx X mi_M_trace lev1 [.ref 0, .int z0] sh I J "java/lang/UnsupportedOperationException" F) (hlev : lev1 < lev) : EVa TT cl6 X mi_W_trace lev 1 6 [.ref 0, .int z0] sh I J (fun v s I1 J1 => s = sh ∧ v = some (.int (Int32.ofInt (-900001))) ∧ F I1 J1) := by
  refine gw_enter (hx_ok hx) (by decide +kernel) (Nat.le_of_ble_eq_true rfl) (L := [(0, _), (1, _)]) rfl ?_
  refine lf_aload_n d_W_trace_0 rfl rfl rfl ?_
  refine lf_iload_n d_W_trace_1 rfl rfl ?_
  refine gw_call s_W_trace_2 he (S := []) (kc := 0) (ks := 0) rfl (gcR_2 (c_0 hM)) hlev (by decide +kernel) (Nat.le_of_ble_eq_true rfl) (fun q => nomatch q) (fun E1 s1 I1 J1 w _ => ?_) (fun v s1 I1 J1 w _ => w.elim)
  obtain ⟨rfl, rfl, w⟩ := w
  refine h_W_trace_2_2 hx ?_
  refine lf_astore_n d_W_trace_6 rfl (by decide +kernel) rfl (L2 := [(2, _), (0, _), (1, _)]) rfl ?_
  refine gi_pushi s_W_trace_7 ?_
  refine gw_iret d_W_trace_9 rfl ?_
  exact ⟨rfl, rfl, w⟩
theorem w_trace_4 (hx : HX X L9 xs) {hs9 : Value} (hM : clM sh hs9) {z0 : Int32} {lev lev1 : Nat} {F : mI → mJ → Prop} (he : EVx X mi_M_trace lev1 [.ref 0, .int z0] sh I J "java/util/NoSuchElementException" F) (hlev : lev1 < lev) : EVa TT cl6 X mi_W_trace lev 1 6 [.ref 0, .int z0] sh I J (fun v s I1 J1 => s = sh ∧ v = some (.int (Int32.ofInt (-900002))) ∧ F I1 J1) := by
  refine gw_enter (hx_ok hx) (by decide +kernel) (Nat.le_of_ble_eq_true rfl) (L := [(0, _), (1, _)]) rfl ?_
  refine lf_aload_n d_W_trace_0 rfl rfl rfl ?_
  refine lf_iload_n d_W_trace_1 rfl rfl ?_
  refine gw_call s_W_trace_2 he (S := []) (kc := 0) (ks := 0) rfl (gcR_2 (c_0 hM)) hlev (by decide +kernel) (Nat.le_of_ble_eq_true rfl) (fun q => nomatch q) (fun E1 s1 I1 J1 w _ => ?_) (fun v s1 I1 J1 w _ => w.elim)
  obtain ⟨rfl, rfl, w⟩ := w
  refine h_W_trace_2_4 hx ?_
  refine lf_astore_n d_W_trace_10 rfl (by decide +kernel) rfl (L2 := [(2, _), (0, _), (1, _)]) rfl ?_
  refine gi_pushi s_W_trace_11 ?_
  refine gw_iret d_W_trace_13 rfl ?_
  exact ⟨rfl, rfl, w⟩
theorem w_value (hx : HX X L9 xs) {hs9 : Value} (hM : clM sh hs9) {z0 z1 : Int32} {lev lev1 kc1 ks1 : Nat} {F : Option Value → sM → mI → mJ → Prop} (he : EVa TT cl6 X mi_M_value lev1 kc1 ks1 [.ref 0, .int z0, .int z1] sh I J F) (hv : ∀ v s I1 J1, F v s I1 J1 → ∃ z : Int32, v = some (.int z)) (hlev : lev1 < lev) : EVa TT cl6 X mi_W_value lev kc1 ks1 [.ref 0, .int z0, .int z1] sh I J F := by
  refine gw_enter (hx_ok hx) (by decide +kernel) (Nat.le_of_ble_eq_true rfl) (L := [(0, _), (1, _), (2, _)]) rfl ?_
  refine lf_aload_n d_W_value_0 rfl rfl rfl ?_
  refine lf_iload_n d_W_value_1 rfl rfl ?_
  refine lf_iload_n d_W_value_2 rfl rfl ?_
  refine gw_callA s_W_value_3 he (S := []) rfl rfl rfl rfl (gcR_2 (c_0 hM)) hlev (by decide +kernel) (Nat.le_of_ble_eq_true rfl) (kc := 0) (ks := 0) (fun v s1 I1 J1 w _ => ?_)
  obtain ⟨z, rfl⟩ := hv v s1 I1 J1 w
  exact lf_ireturn d_W_value_6 rfl rfl ⟨s1, I1, J1, rfl, w⟩
theorem w_value_0 (hx : HX X L9 xs) {hs9 : Value} (hM : clM sh hs9) {z0 z1 : Int32} {lev lev1 : Nat} {F : mI → mJ → Prop} (he : EVx X mi_M_value lev1 [.ref 0, .int z0, .int z1] sh I J "java/lang/IllegalArgumentException" F) (hlev : lev1 < lev) : EVa TT cl6 X mi_W_value lev 1 6 [.ref 0, .int z0, .int z1] sh I J (fun v s I1 J1 => s = sh ∧ v = some (.int (Int32.ofInt (-900002))) ∧ F I1 J1) := by
  refine gw_enter (hx_ok hx) (by decide +kernel) (Nat.le_of_ble_eq_true rfl) (L := [(0, _), (1, _), (2, _)]) rfl ?_
  refine lf_aload_n d_W_value_0 rfl rfl rfl ?_
  refine lf_iload_n d_W_value_1 rfl rfl ?_
  refine lf_iload_n d_W_value_2 rfl rfl ?_
  refine gw_call s_W_value_3 he (S := []) (kc := 0) (ks := 0) rfl (gcR_2 (c_0 hM)) hlev (by decide +kernel) (Nat.le_of_ble_eq_true rfl) (fun q => nomatch q) (fun E1 s1 I1 J1 w _ => ?_) (fun v s1 I1 J1 w _ => w.elim)
  obtain ⟨rfl, rfl, w⟩ := w
  refine h_W_value_3_0 hx ?_
  refine lf_astore_n d_W_value_11 rfl (by decide +kernel) rfl (L2 := [(3, _), (0, _), (1, _), (2, _)]) rfl ?_
  refine gi_pushi s_W_value_12 ?_
  refine gw_iret d_W_value_14 rfl ?_
  exact ⟨rfl, rfl, w⟩
theorem w_value_1 (hx : HX X L9 xs) {hs9 : Value} (hM : clM sh hs9) {z0 z1 : Int32} {lev lev1 : Nat} {F : mI → mJ → Prop} (he : EVx X mi_M_value lev1 [.ref 0, .int z0, .int z1] sh I J "java/lang/IndexOutOfBoundsException" F) (hlev : lev1 < lev) : EVa TT cl6 X mi_W_value lev 1 6 [.ref 0, .int z0, .int z1] sh I J (fun v s I1 J1 => s = sh ∧ v = some (.int (Int32.ofInt (-900001))) ∧ F I1 J1) := by
  refine gw_enter (hx_ok hx) (by decide +kernel) (Nat.le_of_ble_eq_true rfl) (L := [(0, _), (1, _), (2, _)]) rfl ?_
  refine lf_aload_n d_W_value_0 rfl rfl rfl ?_
  refine lf_iload_n d_W_value_1 rfl rfl ?_
  refine lf_iload_n d_W_value_2 rfl rfl ?_
  refine gw_call s_W_value_3 he (S := []) (kc := 0) (ks := 0) rfl (gcR_2 (c_0 hM)) hlev (by decide +kernel) (Nat.le_of_ble_eq_true rfl) (fun q => nomatch q) (fun E1 s1 I1 J1 w _ => ?_) (fun v s1 I1 J1 w _ => w.elim)
  obtain ⟨rfl, rfl, w⟩ := w
  refine h_W_value_3_1 hx ?_
  refine lf_astore_n d_W_value_7 rfl (by decide +kernel) rfl (L2 := [(3, _), (0, _), (1, _), (2, _)]) rfl ?_
  refine gi_pushi s_W_value_8 ?_
  refine gw_iret d_W_value_10 rfl ?_
  exact ⟨rfl, rfl, w⟩
theorem w_value_2 (hx : HX X L9 xs) {hs9 : Value} (hM : clM sh hs9) {z0 z1 : Int32} {lev lev1 : Nat} {F : mI → mJ → Prop} (he : EVx X mi_M_value lev1 [.ref 0, .int z0, .int z1] sh I J "java/lang/UnsupportedOperationException" F) (hlev : lev1 < lev) : EVa TT cl6 X mi_W_value lev 1 6 [.ref 0, .int z0, .int z1] sh I J (fun v s I1 J1 => s = sh ∧ v = some (.int (Int32.ofInt (-900003))) ∧ F I1 J1) := by
  refine gw_enter (hx_ok hx) (by decide +kernel) (Nat.le_of_ble_eq_true rfl) (L := [(0, _), (1, _), (2, _)]) rfl ?_
  refine lf_aload_n d_W_value_0 rfl rfl rfl ?_
  refine lf_iload_n d_W_value_1 rfl rfl ?_
  refine lf_iload_n d_W_value_2 rfl rfl ?_
  refine gw_call s_W_value_3 he (S := []) (kc := 0) (ks := 0) rfl (gcR_2 (c_0 hM)) hlev (by decide +kernel) (Nat.le_of_ble_eq_true rfl) (fun q => nomatch q) (fun E1 s1 I1 J1 w _ => ?_) (fun v s1 I1 J1 w _ => w.elim)
  obtain ⟨rfl, rfl, w⟩ := w
  refine h_W_value_3_2 hx ?_
  refine lf_astore_n d_W_value_15 rfl (by decide +kernel) rfl (L2 := [(3, _), (0, _), (1, _), (2, _)]) rfl ?_
  refine gi_pushi s_W_value_16 ?_
  refine gw_iret d_W_value_18 rfl ?_
  exact ⟨rfl, rfl, w⟩
theorem w_witness (hx : HX X L9 xs) {hs9 : Value} (hM : clM sh hs9) {z0 z1 z2 : Int32} {lev lev1 kc1 ks1 : Nat} {F : Option Value → sM → mI → mJ → Prop} (he : EVa TT cl6 X mi_M_witness lev1 kc1 ks1 [.ref 0, .int z0, .int z1, .int z2] sh I J F) (hv : ∀ v s I1 J1, F v s I1 J1 → ∃ z : Int32, v = some (.int z)) (hlev : lev1 < lev) : EVa TT cl6 X mi_W_witness lev kc1 ks1 [.ref 0, .int z0, .int z1, .int z2] sh I J F := by
  refine gw_enter (hx_ok hx) (by decide +kernel) (Nat.le_of_ble_eq_true rfl) (L := [(0, _), (1, _), (2, _), (3, _)]) rfl ?_
  refine lf_aload_n d_W_witness_0 rfl rfl rfl ?_
  refine lf_iload_n d_W_witness_1 rfl rfl ?_
  refine lf_iload_n d_W_witness_2 rfl rfl ?_
  refine lf_iload_n d_W_witness_3 rfl rfl ?_
  refine gw_callA s_W_witness_4 he (S := []) rfl rfl rfl rfl (gcR_2 (c_0 hM)) hlev (by decide +kernel) (Nat.le_of_ble_eq_true rfl) (kc := 0) (ks := 0) (fun v s1 I1 J1 w _ => ?_)
  obtain ⟨z, rfl⟩ := hv v s1 I1 J1 w
  exact lf_ireturn d_W_witness_7 rfl rfl ⟨s1, I1, J1, rfl, w⟩
theorem w_witness_1 (hx : HX X L9 xs) {hs9 : Value} (hM : clM sh hs9) {z0 z1 z2 : Int32} {lev lev1 : Nat} {F : mI → mJ → Prop} (he : EVx X mi_M_witness lev1 [.ref 0, .int z0, .int z1, .int z2] sh I J "java/lang/IndexOutOfBoundsException" F) (hlev : lev1 < lev) : EVa TT cl6 X mi_W_witness lev 1 6 [.ref 0, .int z0, .int z1, .int z2] sh I J (fun v s I1 J1 => s = sh ∧ v = some (.int (Int32.ofInt (-900001))) ∧ F I1 J1) := by
  refine gw_enter (hx_ok hx) (by decide +kernel) (Nat.le_of_ble_eq_true rfl) (L := [(0, _), (1, _), (2, _), (3, _)]) rfl ?_
  refine lf_aload_n d_W_witness_0 rfl rfl rfl ?_
  refine lf_iload_n d_W_witness_1 rfl rfl ?_
  refine lf_iload_n d_W_witness_2 rfl rfl ?_
  refine lf_iload_n d_W_witness_3 rfl rfl ?_
  refine gw_call s_W_witness_4 he (S := []) (kc := 0) (ks := 0) rfl (gcR_2 (c_0 hM)) hlev (by decide +kernel) (Nat.le_of_ble_eq_true rfl) (fun q => nomatch q) (fun E1 s1 I1 J1 w _ => ?_) (fun v s1 I1 J1 w _ => w.elim)
  obtain ⟨rfl, rfl, w⟩ := w
  refine h_W_witness_4_1 hx ?_
  refine lf_astore d_W_witness_8 (by decide +kernel) rfl (L2 := [(4, _), (0, _), (1, _), (2, _), (3, _)]) rfl ?_
  refine gi_pushi s_W_witness_10 ?_
  refine gw_iret d_W_witness_12 rfl ?_
  exact ⟨rfl, rfl, w⟩
theorem w_witness_2 (hx : HX X L9 xs) {hs9 : Value} (hM : clM sh hs9) {z0 z1 z2 : Int32} {lev lev1 : Nat} {F : mI → mJ → Prop} (he : EVx X mi_M_witness lev1 [.ref 0, .int z0, .int z1, .int z2] sh I J "java/lang/UnsupportedOperationException" F) (hlev : lev1 < lev) : EVa TT cl6 X mi_W_witness lev 1 6 [.ref 0, .int z0, .int z1, .int z2] sh I J (fun v s I1 J1 => s = sh ∧ v = some (.int (Int32.ofInt (-900002))) ∧ F I1 J1) := by
  refine gw_enter (hx_ok hx) (by decide +kernel) (Nat.le_of_ble_eq_true rfl) (L := [(0, _), (1, _), (2, _), (3, _)]) rfl ?_
  refine lf_aload_n d_W_witness_0 rfl rfl rfl ?_
  refine lf_iload_n d_W_witness_1 rfl rfl ?_
  refine lf_iload_n d_W_witness_2 rfl rfl ?_
  refine lf_iload_n d_W_witness_3 rfl rfl ?_
  refine gw_call s_W_witness_4 he (S := []) (kc := 0) (ks := 0) rfl (gcR_2 (c_0 hM)) hlev (by decide +kernel) (Nat.le_of_ble_eq_true rfl) (fun q => nomatch q) (fun E1 s1 I1 J1 w _ => ?_) (fun v s1 I1 J1 w _ => w.elim)
  obtain ⟨rfl, rfl, w⟩ := w
  refine h_W_witness_4_2 hx ?_
  refine lf_astore d_W_witness_13 (by decide +kernel) rfl (L2 := [(4, _), (0, _), (1, _), (2, _), (3, _)]) rfl ?_
  refine gi_pushi s_W_witness_15 ?_
  refine gw_iret d_W_witness_17 rfl ?_
  exact ⟨rfl, rfl, w⟩
theorem w_witness_4 (hx : HX X L9 xs) {hs9 : Value} (hM : clM sh hs9) {z0 z1 z2 : Int32} {lev lev1 : Nat} {F : mI → mJ → Prop} (he : EVx X mi_M_witness lev1 [.ref 0, .int z0, .int z1, .int z2] sh I J "java/util/NoSuchElementException" F) (hlev : lev1 < lev) : EVa TT cl6 X mi_W_witness lev 1 6 [.ref 0, .int z0, .int z1, .int z2] sh I J (fun v s I1 J1 => s = sh ∧ v = some (.int (Int32.ofInt (-900003))) ∧ F I1 J1) := by
  refine gw_enter (hx_ok hx) (by decide +kernel) (Nat.le_of_ble_eq_true rfl) (L := [(0, _), (1, _), (2, _), (3, _)]) rfl ?_
  refine lf_aload_n d_W_witness_0 rfl rfl rfl ?_
  refine lf_iload_n d_W_witness_1 rfl rfl ?_
  refine lf_iload_n d_W_witness_2 rfl rfl ?_
  refine lf_iload_n d_W_witness_3 rfl rfl ?_
  refine gw_call s_W_witness_4 he (S := []) (kc := 0) (ks := 0) rfl (gcR_2 (c_0 hM)) hlev (by decide +kernel) (Nat.le_of_ble_eq_true rfl) (fun q => nomatch q) (fun E1 s1 I1 J1 w _ => ?_) (fun v s1 I1 J1 w _ => w.elim)
  obtain ⟨rfl, rfl, w⟩ := w
  refine h_W_witness_4_4 hx ?_
  refine lf_astore d_W_witness_18 (by decide +kernel) rfl (L2 := [(4, _), (0, _), (1, _), (2, _), (3, _)]) rfl ?_
  refine gi_pushi s_W_witness_20 ?_
  refine gw_iret d_W_witness_22 rfl ?_
  exact ⟨rfl, rfl, w⟩
end WR1
