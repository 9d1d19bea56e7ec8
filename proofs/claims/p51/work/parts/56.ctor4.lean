section CO4
variable {X : XT} {L9 : Nat} {xs : Nat → Int32} {sh : sM} {I : mI} {J : mJ}

variable {D : mF} {P : Option Value → mF → Prop} {PX : String → mF → Prop} {kc ks : Nat}

theorem d_init (hx : HX X L9 xs) (h0 : sh 18 = some (.inr (7, [.null, .null, .int 0, .int 0, .null, .null, .null, .null, .null, .null, .int 0]))) (hf : ∀ a, 44 ≤ a → a ≤ 55 → sh a = none) {n w s : Nat} (hV : clV sh n w) (hs : I 15 1 = s) (hw : I 15 2 = w) (hs7 : s ≤ 7) (hw2 : w ≤ 2)  : EVa TT cl6 X mi_D_init 1 12 376 [.ref 18, .ref 1, .ref 15] sh I J (fun v s1 I1 J1 => v = none ∧ KEEP s1 I1 J1 sh I J 18 44 55 ∧ True) := by
  refine gw_enter (hx_ok hx) (by decide +kernel) (Nat.le_of_ble_eq_true rfl) (L := [(0, _), (1, _), (2, _)]) rfl ?_
  refine lf_aload_n d_D_init_0 rfl rfl rfl ?_
  refine gw_obj s_D_init_1 (Nat.le_of_ble_eq_true rfl) ?_
  refine lf_aload_n d_D_init_4 rfl rfl rfl ?_
  refine lf_aload_n d_D_init_5 rfl rfl rfl ?_
  refine gi_putr s_D_init_6 h0 rfl rfl rfl rfl ?_
  refine lf_aload_n d_D_init_9 rfl rfl rfl ?_
  refine lf_aload_n d_D_init_10 rfl rfl rfl ?_
  refine gi_putr s_D_init_11 rfl rfl rfl rfl rfl ?_
  refine lf_aload_n d_D_init_14 rfl rfl rfl ?_
  refine lf_aload_n d_D_init_15 rfl rfl rfl ?_
  refine gi_geti s_D_init_16 (c_15 hV) rfl ?_
  refine gi_top hs ?_
  refine gi_puti s_D_init_19 rfl rfl ?_
  refine lf_aload_n d_D_init_22 rfl rfl rfl ?_
  refine lf_aload_n d_D_init_23 rfl rfl rfl ?_
  refine gi_geti s_D_init_24 (c_15 hV) rfl ?_
  refine gi_top hw ?_
  refine gi_puti s_D_init_27 rfl rfl ?_
  refine lf_aload_n d_D_init_30 rfl rfl rfl ?_
  refine lf_aload_n d_D_init_31 rfl rfl rfl ?_
  refine gi_geti s_D_init_32 (c_15 hV) rfl ?_
  refine gi_top hs ?_
  refine gi_newB_int d_D_init_35 tA_int (m := s) (B := 7) (q := 44) (by omega) (by decide) (hf 44 (by decide) (by decide)) ?_
  refine gi_putr s_D_init_37 rfl rfl rfl rfl rfl ?_
  refine lf_aload_n d_D_init_40 rfl rfl rfl ?_
  refine lf_aload_n d_D_init_41 rfl rfl rfl ?_
  refine gi_geti s_D_init_42 (c_15 hV) rfl ?_
  refine gi_top hs ?_
  refine gi_newB_int d_D_init_45 tA_int (m := s) (B := 7) (q := 45) (by omega) (by decide) (hf 45 (by decide) (by decide)) ?_
  refine gi_putr s_D_init_47 rfl rfl rfl rfl rfl ?_
  refine lf_iconst d_D_init_50 (v := Int32.ofInt ((0 : Nat) : Int)) rfl ?_
  refine lf_istore_n d_D_init_51 rfl (by decide +kernel) (L2 := [(3, _), (0, _), (1, _), (2, _)]) rfl ?_
  refine lf_sub [0, 1, 3] rfl ?_
  refine d_init_l (n := s) (by omega) rfl rfl (fun I1 he => ?_) s 0 _ (by omega) ⟨fun _ _ => rfl, fun j hj => absurd hj (Nat.not_lt_zero j)⟩
  have hw9 : I1 15 2 = (w : Int) := (congrFun (he.1 15 (by decide)) 2).trans hw
  refine lf_aload_n d_D_init_74 rfl rfl rfl ?_
  refine lf_bipush d_D_init_75 (v := Int32.ofInt ((8 : Nat) : Int)) (by decide +kernel) ?_
  refine lf_aload_n d_D_init_77 rfl rfl rfl ?_
  refine gi_geti s_D_init_78 (c_15 hV) rfl ?_
  refine gi_top hw9 ?_
  refine gi_imulN (a := 8) (b := w) d_D_init_81 ?_
  refine gi_newB_long d_D_init_82 tA_long (m := (8 * w)) (B := 16) (q := 46) (by omega) (by decide) (hf 46 (by decide) (by decide)) ?_
  refine gi_putr s_D_init_84 rfl rfl rfl rfl rfl ?_
  refine lf_aload_n d_D_init_87 rfl rfl rfl ?_
  refine lf_bipush d_D_init_88 (v := Int32.ofInt ((8 : Nat) : Int)) (by decide +kernel) ?_
  refine lf_aload_n d_D_init_90 rfl rfl rfl ?_
  refine gi_geti s_D_init_91 (c_15 hV) rfl ?_
  refine gi_top hw9 ?_
  refine gi_imulN (a := 8) (b := w) d_D_init_94 ?_
  refine gi_newB_int d_D_init_95 tA_int (m := (8 * w)) (B := 16) (q := 47) (by omega) (by decide) (hf 47 (by decide) (by decide)) ?_
  refine gi_putr s_D_init_97 rfl rfl rfl rfl rfl ?_
  refine lf_aload_n d_D_init_100 rfl rfl rfl ?_
  refine gi_new s_D_init_101 cD_11 cZ_11 (q := 48) (hf 48 (by decide) (by decide)) ?_
  refine lf_dup d_D_init_104 rfl ?_
  refine gw_callA s_D_init_105 (k_init48 hx rfl (fun a h1 h2 => by (repeat rw [spt_o (by omega)]); exact hf a (by omega) (by omega))) (S := [_, _]) rfl rfl rfl rfl gcR_3 (by decide) (by decide +kernel) (Nat.le_of_ble_eq_true rfl) (kc := 4) (ks := 165) (fun v sh I J w105 hi105 => ?_)
  obtain ⟨rfl, wK, -⟩ := w105
  have h18 := (wK 18 (by decide) (by decide)).1.trans (show _ = some (.inr (7, [.ref 1, .ref 15, .int 0, .int 0, .ref 44, .ref 45, .ref 46, .ref 47, .null, .null, .int 0])) from rfl)
  refine gi_putr s_D_init_108 h18 rfl rfl rfl rfl ?_
  refine lf_aload_n d_D_init_111 rfl rfl rfl ?_
  refine gi_new s_D_init_112 cD_11 cZ_11 (q := 52) ((wK 52 (by decide) (by decide)).1.trans (hf 52 (by decide) (by decide))) ?_
  refine lf_dup d_D_init_115 rfl ?_
  refine gw_callA s_D_init_116 (k_init52 hx rfl (fun a h1 h2 => by (repeat rw [spt_o (by omega)]); rw [(wK a (by omega) (by omega)).1]; (repeat rw [spt_o (by omega)]); exact hf a (by omega) (by omega))) (S := [_, _]) rfl rfl rfl rfl gcR_3 (by decide) (by decide +kernel) (Nat.le_of_ble_eq_true rfl) (kc := 0) (ks := 0) (fun v sh I J w116 hi116 => ?_)
  obtain ⟨rfl, wL, -⟩ := w116
  have h18 := (wL 18 (by decide) (by decide)).1.trans (show _ = some (.inr (7, [.ref 1, .ref 15, .int 0, .int 0, .ref 44, .ref 45, .ref 46, .ref 47, .ref 48, .null, .int 0])) from rfl)
  refine gi_putr s_D_init_119 h18 rfl rfl rfl rfl ?_
  refine lf_aload_n d_D_init_122 rfl rfl rfl ?_
  refine lf_iconst d_D_init_123 (v := Int32.ofInt ((0 : Nat) : Int)) rfl ?_
  refine gi_puti s_D_init_124 rfl rfl ?_
  refine gw_ret d_D_init_127 rfl ?_
  exact ⟨rfl, (by repeat (first | exact KEEP_rf | refine KEEP_tr wL ?_ (by omega) (by omega) | refine KEEP_tr wK ?_ (by omega) (by omega) | refine KEEP_e he.1 (by omega) ?_ | refine KEEP_s (by omega) ?_ | refine KEEP_i (by omega) ?_ | refine KEEP_z (by omega) ?_ | refine KEEP_j (by omega) ?_ | refine KEEP_y (by omega) ?_)), trivial⟩
theorem c_init19 (hx : HX X L9 xs) (h0 : sh 19 = some (.inr (8, [.null, .int 0, .null, .null, .null, .null, .int 0, .int 0]))) (hf : ∀ a, 56 ≤ a → a ≤ 62 → sh a = none) {m : Nat} : EVa TT cl6 X mi_C_init 1 7 742 [.ref 19, .ref 16, .int (Int32.ofInt ((m : Nat) : Int))] sh I J (fun v s1 I1 J1 => v = none ∧ KEEP s1 I1 J1 sh I J 19 56 62 ∧ True) := by
  refine gw_enter (hx_ok hx) (by decide +kernel) (Nat.le_of_ble_eq_true rfl) (L := [(0, _), (1, _), (2, _)]) rfl ?_
  refine lf_aload_n d_C_init_0 rfl rfl rfl ?_
  refine gw_obj s_C_init_1 (Nat.le_of_ble_eq_true rfl) ?_
  refine lf_aload_n d_C_init_4 rfl rfl rfl ?_
  refine lf_aload_n d_C_init_5 rfl rfl rfl ?_
  refine gi_putr s_C_init_6 h0 rfl rfl rfl rfl ?_
  refine lf_aload_n d_C_init_9 rfl rfl rfl ?_
  refine lf_iload_n d_C_init_10 rfl rfl ?_
  refine gi_puti s_C_init_11 rfl rfl ?_
  refine lf_aload_n d_C_init_14 rfl rfl rfl ?_
  refine lf_sipush d_C_init_15 (v := Int32.ofInt ((257 : Nat) : Int)) (by decide +kernel) ?_
  refine gi_newB_int d_C_init_18 tA_int (m := 257) (B := 257) (q := 56) (by omega) (by decide) (hf 56 (by decide) (by decide)) ?_
  refine gi_putr s_C_init_20 rfl rfl rfl rfl rfl ?_
  refine lf_aload_n d_C_init_23 rfl rfl rfl ?_
  refine lf_sipush d_C_init_24 (v := Int32.ofInt ((256 : Nat) : Int)) (by decide +kernel) ?_
  refine gi_newB_int d_C_init_27 tA_int (m := 256) (B := 256) (q := 57) (by omega) (by decide) (hf 57 (by decide) (by decide)) ?_
  refine gi_putr s_C_init_29 rfl rfl rfl rfl rfl ?_
  refine lf_aload_n d_C_init_32 rfl rfl rfl ?_
  refine gi_new s_C_init_33 cD_11 cZ_11 (q := 58) (hf 58 (by decide) (by decide)) ?_
  refine lf_dup d_C_init_36 rfl ?_
  refine gw_callA s_C_init_37 (k_init58 hx rfl (fun a h1 h2 => by (repeat rw [spt_o (by omega)]); exact hf a (by omega) (by omega))) (S := [_, _]) rfl rfl rfl rfl gcR_3 (by decide) (by decide +kernel) (Nat.le_of_ble_eq_true rfl) (kc := 1) (ks := 64) (fun v sh I J w37 hi37 => ?_)
  obtain ⟨rfl, wK, -⟩ := w37
  have h19 := (wK 19 (by decide) (by decide)).1.trans (show _ = some (.inr (8, [.ref 16, .int 0, .ref 56, .ref 57, .null, .null, .int 0, .int 0])) from rfl)
  refine gi_putr s_C_init_40 h19 rfl rfl rfl rfl ?_
  refine lf_aload_n d_C_init_43 rfl rfl rfl ?_
  refine lf_bipush d_C_init_44 (v := Int32.ofInt ((64 : Nat) : Int)) (by decide +kernel) ?_
  refine gi_newB_long d_C_init_46 tA_long (m := 64) (B := 64) (q := 62) (by omega) (by decide) ((wK 62 (by decide) (by decide)).1.trans (hf 62 (by decide) (by decide))) ?_
  refine gi_putr s_C_init_48 rfl rfl rfl rfl rfl ?_
  refine lf_aload_n d_C_init_51 rfl rfl rfl ?_
  refine lf_iconst d_C_init_52 (v := Int32.ofInt ((0 : Nat) : Int)) rfl ?_
  refine gi_puti s_C_init_53 rfl rfl ?_
  refine lf_aload_n d_C_init_56 rfl rfl rfl ?_
  refine lf_iconst d_C_init_57 (v := Int32.ofInt ((0 : Nat) : Int)) rfl ?_
  refine gi_putz s_C_init_58 rfl rfl (by omega) ?_
  refine gw_ret d_C_init_61 rfl ?_
  exact ⟨rfl, (by repeat (first | exact KEEP_rf | refine KEEP_tr wK ?_ (by omega) (by omega) | refine KEEP_s (by omega) ?_ | refine KEEP_i (by omega) ?_ | refine KEEP_z (by omega) ?_ | refine KEEP_j (by omega) ?_ | refine KEEP_y (by omega) ?_)), trivial⟩
theorem c_init20 (hx : HX X L9 xs) (h0 : sh 20 = some (.inr (8, [.null, .int 0, .null, .null, .null, .null, .int 0, .int 0]))) (hf : ∀ a, 63 ≤ a → a ≤ 69 → sh a = none) {m : Nat} : EVa TT cl6 X mi_C_init 1 7 742 [.ref 20, .ref 16, .int (Int32.ofInt ((m : Nat) : Int))] sh I J (fun v s1 I1 J1 => v = none ∧ KEEP s1 I1 J1 sh I J 20 63 69 ∧ True) := by
  refine gw_enter (hx_ok hx) (by decide +kernel) (Nat.le_of_ble_eq_true rfl) (L := [(0, _), (1, _), (2, _)]) rfl ?_
  refine lf_aload_n d_C_init_0 rfl rfl rfl ?_
  refine gw_obj s_C_init_1 (Nat.le_of_ble_eq_true rfl) ?_
  refine lf_aload_n d_C_init_4 rfl rfl rfl ?_
  refine lf_aload_n d_C_init_5 rfl rfl rfl ?_
  refine gi_putr s_C_init_6 h0 rfl rfl rfl rfl ?_
  refine lf_aload_n d_C_init_9 rfl rfl rfl ?_
  refine lf_iload_n d_C_init_10 rfl rfl ?_
  refine gi_puti s_C_init_11 rfl rfl ?_
  refine lf_aload_n d_C_init_14 rfl rfl rfl ?_
  refine lf_sipush d_C_init_15 (v := Int32.ofInt ((257 : Nat) : Int)) (by decide +kernel) ?_
  refine gi_newB_int d_C_init_18 tA_int (m := 257) (B := 257) (q := 63) (by omega) (by decide) (hf 63 (by decide) (by decide)) ?_
  refine gi_putr s_C_init_20 rfl rfl rfl rfl rfl ?_
  refine lf_aload_n d_C_init_23 rfl rfl rfl ?_
  refine lf_sipush d_C_init_24 (v := Int32.ofInt ((256 : Nat) : Int)) (by decide +kernel) ?_
  refine gi_newB_int d_C_init_27 tA_int (m := 256) (B := 256) (q := 64) (by omega) (by decide) (hf 64 (by decide) (by decide)) ?_
  refine gi_putr s_C_init_29 rfl rfl rfl rfl rfl ?_
  refine lf_aload_n d_C_init_32 rfl rfl rfl ?_
  refine gi_new s_C_init_33 cD_11 cZ_11 (q := 65) (hf 65 (by decide) (by decide)) ?_
  refine lf_dup d_C_init_36 rfl ?_
  refine gw_callA s_C_init_37 (k_init65 hx rfl (fun a h1 h2 => by (repeat rw [spt_o (by omega)]); exact hf a (by omega) (by omega))) (S := [_, _]) rfl rfl rfl rfl gcR_3 (by decide) (by decide +kernel) (Nat.le_of_ble_eq_true rfl) (kc := 1) (ks := 64) (fun v sh I J w37 hi37 => ?_)
  obtain ⟨rfl, wK, -⟩ := w37
  have h19 := (wK 20 (by decide) (by decide)).1.trans (show _ = some (.inr (8, [.ref 16, .int 0, .ref 63, .ref 64, .null, .null, .int 0, .int 0])) from rfl)
  refine gi_putr s_C_init_40 h19 rfl rfl rfl rfl ?_
  refine lf_aload_n d_C_init_43 rfl rfl rfl ?_
  refine lf_bipush d_C_init_44 (v := Int32.ofInt ((64 : Nat) : Int)) (by decide +kernel) ?_
  refine gi_newB_long d_C_init_46 tA_long (m := 64) (B := 64) (q := 69) (by omega) (by decide) ((wK 69 (by decide) (by decide)).1.trans (hf 69 (by decide) (by decide))) ?_
  refine gi_putr s_C_init_48 rfl rfl rfl rfl rfl ?_
  refine lf_aload_n d_C_init_51 rfl rfl rfl ?_
  refine lf_iconst d_C_init_52 (v := Int32.ofInt ((0 : Nat) : Int)) rfl ?_
  refine gi_puti s_C_init_53 rfl rfl ?_
  refine lf_aload_n d_C_init_56 rfl rfl rfl ?_
  refine lf_iconst d_C_init_57 (v := Int32.ofInt ((0 : Nat) : Int)) rfl ?_
  refine gi_putz s_C_init_58 rfl rfl (by omega) ?_
  refine gw_ret d_C_init_61 rfl ?_
  exact ⟨rfl, (by repeat (first | exact KEEP_rf | refine KEEP_tr wK ?_ (by omega) (by omega) | refine KEEP_s (by omega) ?_ | refine KEEP_i (by omega) ?_ | refine KEEP_z (by omega) ?_ | refine KEEP_j (by omega) ?_ | refine KEEP_y (by omega) ?_)), trivial⟩
theorem c_init21 (hx : HX X L9 xs) (h0 : sh 21 = some (.inr (8, [.null, .int 0, .null, .null, .null, .null, .int 0, .int 0]))) (hf : ∀ a, 70 ≤ a → a ≤ 76 → sh a = none) {m : Nat} : EVa TT cl6 X mi_C_init 1 7 742 [.ref 21, .ref 16, .int (Int32.ofInt ((m : Nat) : Int))] sh I J (fun v s1 I1 J1 => v = none ∧ KEEP s1 I1 J1 sh I J 21 70 76 ∧ True) := by
  refine gw_enter (hx_ok hx) (by decide +kernel) (Nat.le_of_ble_eq_true rfl) (L := [(0, _), (1, _), (2, _)]) rfl ?_
  refine lf_aload_n d_C_init_0 rfl rfl rfl ?_
  refine gw_obj s_C_init_1 (Nat.le_of_ble_eq_true rfl) ?_
  refine lf_aload_n d_C_init_4 rfl rfl rfl ?_
  refine lf_aload_n d_C_init_5 rfl rfl rfl ?_
  refine gi_putr s_C_init_6 h0 rfl rfl rfl rfl ?_
  refine lf_aload_n d_C_init_9 rfl rfl rfl ?_
  refine lf_iload_n d_C_init_10 rfl rfl ?_
  refine gi_puti s_C_init_11 rfl rfl ?_
  refine lf_aload_n d_C_init_14 rfl rfl rfl ?_
  refine lf_sipush d_C_init_15 (v := Int32.ofInt ((257 : Nat) : Int)) (by decide +kernel) ?_
  refine gi_newB_int d_C_init_18 tA_int (m := 257) (B := 257) (q := 70) (by omega) (by decide) (hf 70 (by decide) (by decide)) ?_
  refine gi_putr s_C_init_20 rfl rfl rfl rfl rfl ?_
  refine lf_aload_n d_C_init_23 rfl rfl rfl ?_
  refine lf_sipush d_C_init_24 (v := Int32.ofInt ((256 : Nat) : Int)) (by decide +kernel) ?_
  refine gi_newB_int d_C_init_27 tA_int (m := 256) (B := 256) (q := 71) (by omega) (by decide) (hf 71 (by decide) (by decide)) ?_
  refine gi_putr s_C_init_29 rfl rfl rfl rfl rfl ?_
  refine lf_aload_n d_C_init_32 rfl rfl rfl ?_
  refine gi_new s_C_init_33 cD_11 cZ_11 (q := 72) (hf 72 (by decide) (by decide)) ?_
  refine lf_dup d_C_init_36 rfl ?_
  refine gw_callA s_C_init_37 (k_init72 hx rfl (fun a h1 h2 => by (repeat rw [spt_o (by omega)]); exact hf a (by omega) (by omega))) (S := [_, _]) rfl rfl rfl rfl gcR_3 (by decide) (by decide +kernel) (Nat.le_of_ble_eq_true rfl) (kc := 1) (ks := 64) (fun v sh I J w37 hi37 => ?_)
  obtain ⟨rfl, wK, -⟩ := w37
  have h19 := (wK 21 (by decide) (by decide)).1.trans (show _ = some (.inr (8, [.ref 16, .int 0, .ref 70, .ref 71, .null, .null, .int 0, .int 0])) from rfl)
  refine gi_putr s_C_init_40 h19 rfl rfl rfl rfl ?_
  refine lf_aload_n d_C_init_43 rfl rfl rfl ?_
  refine lf_bipush d_C_init_44 (v := Int32.ofInt ((64 : Nat) : Int)) (by decide +kernel) ?_
  refine gi_newB_long d_C_init_46 tA_long (m := 64) (B := 64) (q := 76) (by omega) (by decide) ((wK 76 (by decide) (by decide)).1.trans (hf 76 (by decide) (by decide))) ?_
  refine gi_putr s_C_init_48 rfl rfl rfl rfl rfl ?_
  refine lf_aload_n d_C_init_51 rfl rfl rfl ?_
  refine lf_iconst d_C_init_52 (v := Int32.ofInt ((0 : Nat) : Int)) rfl ?_
  refine gi_puti s_C_init_53 rfl rfl ?_
  refine lf_aload_n d_C_init_56 rfl rfl rfl ?_
  refine lf_iconst d_C_init_57 (v := Int32.ofInt ((0 : Nat) : Int)) rfl ?_
  refine gi_putz s_C_init_58 rfl rfl (by omega) ?_
  refine gw_ret d_C_init_61 rfl ?_
  exact ⟨rfl, (by repeat (first | exact KEEP_rf | refine KEEP_tr wK ?_ (by omega) (by omega) | refine KEEP_s (by omega) ?_ | refine KEEP_i (by omega) ?_ | refine KEEP_z (by omega) ?_ | refine KEEP_j (by omega) ?_ | refine KEEP_y (by omega) ?_)), trivial⟩
theorem r_init (hx : HX X L9 xs) (h0 : sh 22 = some (.inr (9, [.null, .null, .null, .null, .int 0]))) (hf : ∀ a, 77 ≤ a → a ≤ 78 → sh a = none)  : EVa TT cl6 X mi_R_init 1 2 160 [.ref 22, .ref 1, .ref 15] sh I J (fun v s1 I1 J1 => v = none ∧ KEEP s1 I1 J1 sh I J 22 77 78 ∧ True) := by
  refine gw_enter (hx_ok hx) (by decide +kernel) (Nat.le_of_ble_eq_true rfl) (L := [(0, _), (1, _), (2, _)]) rfl ?_
  refine lf_aload_n d_R_init_0 rfl rfl rfl ?_
  refine gw_obj s_R_init_1 (Nat.le_of_ble_eq_true rfl) ?_
  refine lf_aload_n d_R_init_4 rfl rfl rfl ?_
  refine lf_aload_n d_R_init_5 rfl rfl rfl ?_
  refine gi_putr s_R_init_6 h0 rfl rfl rfl rfl ?_
  refine lf_aload_n d_R_init_9 rfl rfl rfl ?_
  refine lf_aload_n d_R_init_10 rfl rfl rfl ?_
  refine gi_putr s_R_init_11 rfl rfl rfl rfl rfl ?_
  refine lf_aload_n d_R_init_14 rfl rfl rfl ?_
  refine lf_bipush d_R_init_15 (v := Int32.ofInt ((80 : Nat) : Int)) (by decide +kernel) ?_
  refine gi_newB_long d_R_init_17 tA_long (m := 80) (B := 80) (q := 77) (by omega) (by decide) (hf 77 (by decide) (by decide)) ?_
  refine gi_putr s_R_init_19 rfl rfl rfl rfl rfl ?_
  refine lf_aload_n d_R_init_22 rfl rfl rfl ?_
  refine lf_bipush d_R_init_23 (v := Int32.ofInt ((80 : Nat) : Int)) (by decide +kernel) ?_
  refine gi_newB_int d_R_init_25 tA_int (m := 80) (B := 80) (q := 78) (by omega) (by decide) (hf 78 (by decide) (by decide)) ?_
  refine gi_putr s_R_init_27 rfl rfl rfl rfl rfl ?_
  refine lf_aload_n d_R_init_30 rfl rfl rfl ?_
  refine lf_iconst d_R_init_31 (v := Int32.ofInt (-1)) rfl ?_
  refine gi_puti s_R_init_32 rfl rfl ?_
  refine gw_ret d_R_init_35 rfl ?_
  exact ⟨rfl, (by repeat (first | exact KEEP_rf | refine KEEP_s (by omega) ?_ | refine KEEP_i (by omega) ?_ | refine KEEP_z (by omega) ?_ | refine KEEP_j (by omega) ?_ | refine KEEP_y (by omega) ?_)), trivial⟩
theorem g_init (hx : HX X L9 xs) (h0 : sh 23 = some (.inr (10, [.null, .null, .null, .null, .int 0]))) (hf : ∀ a, 79 ≤ a → a ≤ 80 → sh a = none)  : EVa TT cl6 X mi_G_init 1 2 160 [.ref 23, .ref 1, .ref 15] sh I J (fun v s1 I1 J1 => v = none ∧ KEEP s1 I1 J1 sh I J 23 79 80 ∧ True) := by
  refine gw_enter (hx_ok hx) (by decide +kernel) (Nat.le_of_ble_eq_true rfl) (L := [(0, _), (1, _), (2, _)]) rfl ?_
  refine lf_aload_n d_G_init_0 rfl rfl rfl ?_
  refine gw_obj s_G_init_1 (Nat.le_of_ble_eq_true rfl) ?_
  refine lf_aload_n d_G_init_4 rfl rfl rfl ?_
  refine lf_aload_n d_G_init_5 rfl rfl rfl ?_
  refine gi_putr s_G_init_6 h0 rfl rfl rfl rfl ?_
  refine lf_aload_n d_G_init_9 rfl rfl rfl ?_
  refine lf_aload_n d_G_init_10 rfl rfl rfl ?_
  refine gi_putr s_G_init_11 rfl rfl rfl rfl rfl ?_
  refine lf_aload_n d_G_init_14 rfl rfl rfl ?_
  refine lf_bipush d_G_init_15 (v := Int32.ofInt ((80 : Nat) : Int)) (by decide +kernel) ?_
  refine gi_newB_int d_G_init_17 tA_int (m := 80) (B := 80) (q := 79) (by omega) (by decide) (hf 79 (by decide) (by decide)) ?_
  refine gi_putr s_G_init_19 rfl rfl rfl rfl rfl ?_
  refine lf_aload_n d_G_init_22 rfl rfl rfl ?_
  refine lf_bipush d_G_init_23 (v := Int32.ofInt ((80 : Nat) : Int)) (by decide +kernel) ?_
  refine gi_newB_int d_G_init_25 tA_int (m := 80) (B := 80) (q := 80) (by omega) (by decide) (hf 80 (by decide) (by decide)) ?_
  refine gi_putr s_G_init_27 rfl rfl rfl rfl rfl ?_
  refine lf_aload_n d_G_init_30 rfl rfl rfl ?_
  refine lf_iconst d_G_init_31 (v := Int32.ofInt (-1)) rfl ?_
  refine gi_puti s_G_init_32 rfl rfl ?_
  refine gw_ret d_G_init_35 rfl ?_
  exact ⟨rfl, (by repeat (first | exact KEEP_rf | refine KEEP_s (by omega) ?_ | refine KEEP_i (by omega) ?_ | refine KEEP_z (by omega) ?_ | refine KEEP_j (by omega) ?_ | refine KEEP_y (by omega) ?_)), trivial⟩
theorem t_init (hx : HX X L9 xs) (h0 : sh 24 = some (.inr (6, [.null, .null, .int 0, .int 0, .null, .null, .null, .null, .null, .null, .null, .null, .int 0, .int 0, .int 0, .int 0]))) (hf : ∀ a, 36 ≤ a → a ≤ 43 → sh a = none) (hN : clN sh) {n w s ni : Nat} (hV : clV sh n w) (hs : I 15 1 = s) (hni : I 1 12 = ni) (hnis : ni ≤ s) (hs7 : s ≤ 7) : EVa TT cl6 X mi_T_init 1 8 1024 [.ref 24, .ref 1, .ref 15] sh I J (fun v s1 I1 J1 => v = none ∧ KEEP s1 I1 J1 sh I J 24 36 43 ∧ clT s1 (2 ^ s) (2 ^ (s - ni)) ∧ I1 24 2 = ni ∧ I1 24 3 = ((2 ^ (s - ni) : Nat) : Int) ∧ I1 24 12 = 0 ∧ I1 24 13 = -1 ∧ I1 24 14 = 0 ∧ I1 24 15 = -1) := by
  have hS128 : 2 ^ (s - ni) ≤ 128 := pow2_7 (by omega)
  have hC128 : 2 ^ s ≤ 128 := pow2_7 hs7
  refine gw_enter (hx_ok hx) (by decide +kernel) (Nat.le_of_ble_eq_true rfl) (L := [(0, _), (1, _), (2, _)]) rfl ?_
  refine lf_aload_n d_T_init_0 rfl rfl rfl ?_
  refine gw_obj s_T_init_1 (Nat.le_of_ble_eq_true rfl) ?_
  refine lf_aload_n d_T_init_4 rfl rfl rfl ?_
  refine lf_aload_n d_T_init_5 rfl rfl rfl ?_
  refine gi_putr s_T_init_6 h0 rfl rfl rfl rfl ?_
  refine lf_aload_n d_T_init_9 rfl rfl rfl ?_
  refine lf_aload_n d_T_init_10 rfl rfl rfl ?_
  refine gi_putr s_T_init_11 rfl rfl rfl rfl rfl ?_
  refine lf_aload_n d_T_init_14 rfl rfl rfl ?_
  refine lf_aload_n d_T_init_15 rfl rfl rfl ?_
  refine gi_geti s_T_init_16 (c_1 hN) rfl ?_
  refine gi_top hni ?_
  refine lf_aload_n d_T_init_19 rfl rfl rfl ?_
  refine gi_geti s_T_init_20 (c_15 hV) rfl ?_
  refine gi_top hs ?_
  refine gi_min d_T_init_23 tminL_T_28 tminS tMI tminC (Nat.le_of_ble_eq_true rfl) (by omega) ?_
  refine gi_top (show min ((ni : Nat) : Int) ((s : Nat) : Int) = ((ni : Nat) : Int) from by omega) ?_
  refine gi_puti s_T_init_26 rfl rfl ?_
  refine lf_aload_n d_T_init_29 rfl rfl rfl ?_
  refine lf_iconst d_T_init_30 (v := Int32.ofInt ((1 : Nat) : Int)) rfl ?_
  refine lf_iconst d_T_init_31 (v := Int32.ofInt ((0 : Nat) : Int)) rfl ?_
  refine lf_aload_n d_T_init_32 rfl rfl rfl ?_
  refine gi_geti s_T_init_33 (c_15 hV) rfl ?_
  refine gi_top hs ?_
  refine lf_aload_n d_T_init_36 rfl rfl rfl ?_
  refine gi_geti s_T_init_37 (c_1 hN) rfl ?_
  refine gi_top hni ?_
  refine gi_isubN (a := s) (b := ni) d_T_init_40 (by omega) ?_
  refine gi_max d_T_init_41 tmaxL_T_35 tmaxS tMI tmaxC (Nat.le_of_ble_eq_true rfl) (by omega) ?_
  refine gi_top (show max ((0 : Nat) : Int) ((s - ni : Nat) : Int) = ((s - ni : Nat) : Int) from by omega) ?_
  refine gi_ishlN (a := 1) (s := (s - ni)) d_T_init_44 (by omega) ?_
  refine gi_top (show ((1 * 2 ^ (s - ni) : Nat) : Int) = ((2 ^ (s - ni) : Nat) : Int) from by rw [Nat.one_mul]) ?_
  refine gi_puti s_T_init_45 rfl rfl ?_
  refine lf_aload_n d_T_init_48 rfl rfl rfl ?_
  refine lf_iconst d_T_init_49 (v := Int32.ofInt ((1 : Nat) : Int)) rfl ?_
  refine lf_aload_n d_T_init_50 rfl rfl rfl ?_
  refine gi_geti s_T_init_51 (c_15 hV) rfl ?_
  refine gi_top hs ?_
  refine gi_ishlN (a := 1) (s := s) d_T_init_54 (by omega) ?_
  refine gi_top (show ((1 * 2 ^ s : Nat) : Int) = ((2 ^ s : Nat) : Int) from by rw [Nat.one_mul]) ?_
  refine gi_newB_int d_T_init_55 tA_int (m := (2 ^ s)) (B := 128) (q := 36) (by omega) (by decide) (hf 36 (by decide) (by decide)) ?_
  refine gi_putr s_T_init_57 rfl rfl rfl rfl rfl ?_
  refine lf_aload_n d_T_init_60 rfl rfl rfl ?_
  refine lf_aload_n d_T_init_61 rfl rfl rfl ?_
  refine gi_geti s_T_init_62 rfl rfl ?_
  refine gi_top (b := ((2 ^ (s - ni) : Nat) : Int)) rfl ?_
  refine gi_newB_int d_T_init_65 tA_int (m := (2 ^ (s - ni))) (B := 128) (q := 37) (by omega) (by decide) (hf 37 (by decide) (by decide)) ?_
  refine gi_putr s_T_init_67 rfl rfl rfl rfl rfl ?_
  refine lf_aload_n d_T_init_70 rfl rfl rfl ?_
  refine lf_aload_n d_T_init_71 rfl rfl rfl ?_
  refine gi_geti s_T_init_72 rfl rfl ?_
  refine gi_top (b := ((2 ^ (s - ni) : Nat) : Int)) rfl ?_
  refine gi_newB_int d_T_init_75 tA_int (m := (2 ^ (s - ni))) (B := 128) (q := 38) (by omega) (by decide) (hf 38 (by decide) (by decide)) ?_
  refine gi_putr s_T_init_77 rfl rfl rfl rfl rfl ?_
  refine lf_aload_n d_T_init_80 rfl rfl rfl ?_
  refine lf_aload_n d_T_init_81 rfl rfl rfl ?_
  refine gi_geti s_T_init_82 rfl rfl ?_
  refine gi_top (b := ((2 ^ (s - ni) : Nat) : Int)) rfl ?_
  refine gi_newB_int d_T_init_85 tA_int (m := (2 ^ (s - ni))) (B := 128) (q := 39) (by omega) (by decide) (hf 39 (by decide) (by decide)) ?_
  refine gi_putr s_T_init_87 rfl rfl rfl rfl rfl ?_
  refine lf_aload_n d_T_init_90 rfl rfl rfl ?_
  refine lf_aload_n d_T_init_91 rfl rfl rfl ?_
  refine gi_geti s_T_init_92 rfl rfl ?_
  refine gi_top (b := ((2 ^ (s - ni) : Nat) : Int)) rfl ?_
  refine gi_newB_int d_T_init_95 tA_int (m := (2 ^ (s - ni))) (B := 128) (q := 40) (by omega) (by decide) (hf 40 (by decide) (by decide)) ?_
  refine gi_putr s_T_init_97 rfl rfl rfl rfl rfl ?_
  refine lf_aload_n d_T_init_100 rfl rfl rfl ?_
  refine lf_aload_n d_T_init_101 rfl rfl rfl ?_
  refine gi_geti s_T_init_102 rfl rfl ?_
  refine gi_top (b := ((2 ^ (s - ni) : Nat) : Int)) rfl ?_
  refine gi_newB_int d_T_init_105 tA_int (m := (2 ^ (s - ni))) (B := 128) (q := 41) (by omega) (by decide) (hf 41 (by decide) (by decide)) ?_
  refine gi_putr s_T_init_107 rfl rfl rfl rfl rfl ?_
  refine lf_aload_n d_T_init_110 rfl rfl rfl ?_
  refine lf_aload_n d_T_init_111 rfl rfl rfl ?_
  refine gi_geti s_T_init_112 rfl rfl ?_
  refine gi_top (b := ((2 ^ (s - ni) : Nat) : Int)) rfl ?_
  refine gi_newB_int d_T_init_115 tA_int (m := (2 ^ (s - ni))) (B := 128) (q := 42) (by omega) (by decide) (hf 42 (by decide) (by decide)) ?_
  refine gi_putr s_T_init_117 rfl rfl rfl rfl rfl ?_
  refine lf_aload_n d_T_init_120 rfl rfl rfl ?_
  refine lf_aload_n d_T_init_121 rfl rfl rfl ?_
  refine gi_geti s_T_init_122 rfl rfl ?_
  refine gi_top (b := ((2 ^ (s - ni) : Nat) : Int)) rfl ?_
  refine gi_newB_int d_T_init_125 tA_int (m := (2 ^ (s - ni))) (B := 128) (q := 43) (by omega) (by decide) (hf 43 (by decide) (by decide)) ?_
  refine gi_putr s_T_init_127 rfl rfl rfl rfl rfl ?_
  refine lf_aload_n d_T_init_130 rfl rfl rfl ?_
  refine lf_iconst d_T_init_131 (v := Int32.ofInt ((0 : Nat) : Int)) rfl ?_
  refine gi_putz s_T_init_132 rfl rfl (by omega) ?_
  refine lf_aload_n d_T_init_135 rfl rfl rfl ?_
  refine lf_iconst d_T_init_136 (v := Int32.ofInt (-1)) rfl ?_
  refine gi_puti s_T_init_137 rfl rfl ?_
  refine lf_aload_n d_T_init_140 rfl rfl rfl ?_
  refine lf_iconst d_T_init_141 (v := Int32.ofInt ((0 : Nat) : Int)) rfl ?_
  refine gi_puti s_T_init_142 rfl rfl ?_
  refine lf_aload_n d_T_init_145 rfl rfl rfl ?_
  refine lf_iconst d_T_init_146 (v := Int32.ofInt (-1)) rfl ?_
  refine gi_puti s_T_init_147 rfl rfl ?_
  refine gw_ret d_T_init_150 rfl ?_
  exact ⟨rfl, (by repeat (first | exact KEEP_rf | refine KEEP_s (by omega) ?_ | refine KEEP_i (by omega) ?_ | refine KEEP_z (by omega) ?_ | refine KEEP_j (by omega) ?_ | refine KEEP_y (by omega) ?_)), ⟨rfl, rfl, rfl, rfl, rfl, rfl, rfl, rfl, rfl⟩, rfl, rfl, rfl, rfl, rfl, rfl⟩
theorem v_init (hx : HX X L9 xs) (h0 : sh 15 = some (.inr (3, [.null, .int 0, .int 0, .long 0, .null, .null, .null, .null, .null, .int 0, .int 0, .long 0]))) (hf : ∀ a, 26 ≤ a → a ≤ 30 → sh a = none) (hN : clN sh) {n w s : Nat} (hsc : I 1 12 + I 11 0 + I 11 1 = (s : Int)) (hn : I 1 11 = n) (hn2 : n ≤ 80) (hsw : (s ≤ 6 ∧ w = 1) ∨ (s = 7 ∧ w = 2))  : EVa TT cl6 X mi_V_init 3 5 484 [.ref 15, .ref 1] sh I J (fun v s1 I1 J1 => v = none ∧ KEEP s1 I1 J1 sh I J 15 26 30 ∧ clV s1 n w ∧ I1 15 1 = s ∧ I1 15 2 = w ∧ J1 15 3 = evr s ∧ I1 15 9 = 0 ∧ I1 15 10 = ((2 ^ s : Nat) : Int) ∧ J1 15 11 = Int64.ofInt (-1) ∧ ∀ q, J1 27 q = 0 ∧ J1 28 q = 0 ∧ J1 30 q = 0) := by
  refine gw_enter (hx_ok hx) (by decide +kernel) (Nat.le_of_ble_eq_true rfl) (L := [(0, _), (1, _)]) rfl ?_
  have h3 : (s < 6 ∧ w = 1) ∨ (s = 6 ∧ w = 1) ∨ (s = 7 ∧ w = 2) := by omega
  have hC128 : 2 ^ s ≤ 128 := pow2_7 (by omega)
  clear hsw
  rcases h3 with ⟨h6, rfl⟩ | ⟨rfl, rfl⟩ | ⟨rfl, rfl⟩
  · refine lf_aload_n d_V_init_0 rfl rfl rfl ?_
    refine gw_obj s_V_init_1 (Nat.le_of_ble_eq_true rfl) ?_
    refine lf_aload_n d_V_init_4 rfl rfl rfl ?_
    refine lf_aload_n d_V_init_5 rfl rfl rfl ?_
    refine gi_putr s_V_init_6 h0 rfl rfl rfl rfl ?_
    refine lf_aload_n d_V_init_9 rfl rfl rfl ?_
    refine lf_iconst d_V_init_10 (v := Int32.ofInt ((0 : Nat) : Int)) rfl ?_
    refine lf_bipush d_V_init_11 (v := Int32.ofInt ((14 : Nat) : Int)) (by decide +kernel) ?_
    refine lf_aload_n d_V_init_13 rfl rfl rfl ?_
    refine gw_callP s_V_init_14 (n_sourceCount hx (show clN _ from hN)) (S := [_, _, _]) rfl rfl (gcR_2 (c_1 hN)) (by decide) (by decide +kernel) (Nat.le_of_ble_eq_true rfl) ?_
    refine gi_top hsc ?_
    refine gi_min d_V_init_17 tminL_V_21 tminS tMI tminC (Nat.le_of_ble_eq_true rfl) (by omega) ?_
    refine gi_top (show min ((14 : Nat) : Int) ((s : Nat) : Int) = ((s : Nat) : Int) from by omega) ?_
    refine gi_max d_V_init_20 tmaxL_V_27 tmaxS tMI tmaxC (Nat.le_of_ble_eq_true rfl) (by omega) ?_
    refine gi_top (show max ((0 : Nat) : Int) ((s : Nat) : Int) = ((s : Nat) : Int) from by omega) ?_
    refine gi_puti s_V_init_23 rfl rfl ?_
    refine lf_aload_n d_V_init_26 rfl rfl rfl ?_
    refine lf_aload_n d_V_init_27 rfl rfl rfl ?_
    refine gi_geti s_V_init_28 rfl rfl ?_
    refine gi_top (b := ((s : Nat) : Int)) rfl ?_
    refine lf_bipush d_V_init_31 (v := Int32.ofInt ((6 : Nat) : Int)) (by decide +kernel) ?_
    refine gi_icmp_le d_V_init_33 (tgt := 48) (by decide) (by omega) (fun hb33 => ?_) (fun hb33 => False.elim (by omega))
    refine lf_iconst d_V_init_48 (v := Int32.ofInt ((1 : Nat) : Int)) rfl ?_
    refine gi_puti s_V_init_49 rfl rfl ?_
    refine lf_aload_n d_V_init_52 rfl rfl rfl ?_
    refine lf_aload_n d_V_init_53 rfl rfl rfl ?_
    refine gi_geti s_V_init_54 rfl rfl ?_
    refine gi_top (b := ((s : Nat) : Int)) rfl ?_
    refine lf_bipush d_V_init_57 (v := Int32.ofInt ((6 : Nat) : Int)) (by decide +kernel) ?_
    refine gi_icmp_lt d_V_init_59 (tgt := 68) (by decide) (by omega) (fun hb59 => ?_) (fun hb59 => False.elim (by omega))
    refine lf_lconst d_V_init_68 rfl ?_
    refine lf_iconst d_V_init_69 (v := Int32.ofInt ((1 : Nat) : Int)) rfl ?_
    refine lf_aload_n d_V_init_70 rfl rfl rfl ?_
    refine gi_geti s_V_init_71 rfl rfl ?_
    refine gi_top (b := ((s : Nat) : Int)) rfl ?_
    refine gi_ishlN (a := 1) (s := s) d_V_init_74 (by omega) ?_
    refine lf_lshl d_V_init_75 ?_
    refine lf_lconst d_V_init_76 rfl ?_
    refine lf_lsub d_V_init_77 ?_
    refine gi_putl s_V_init_78 rfl rfl ?_
    refine lf_iconst d_V_init_81 (v := Int32.ofInt ((0 : Nat) : Int)) rfl ?_
    refine lf_bipush d_V_init_82 (v := Int32.ofInt ((80 : Nat) : Int)) (by decide +kernel) ?_
    refine lf_aload_n d_V_init_84 rfl rfl rfl ?_
    refine gi_geti s_V_init_85 (c_1 hN) rfl ?_
    refine gi_top hn ?_
    refine gi_min d_V_init_88 tminL_V_21 tminS tMI tminC (Nat.le_of_ble_eq_true rfl) (by omega) ?_
    refine gi_top (show min ((80 : Nat) : Int) ((n : Nat) : Int) = ((n : Nat) : Int) from by omega) ?_
    refine gi_max d_V_init_91 tmaxL_V_27 tmaxS tMI tmaxC (Nat.le_of_ble_eq_true rfl) (by omega) ?_
    refine gi_top (show max ((0 : Nat) : Int) ((n : Nat) : Int) = ((n : Nat) : Int) from by omega) ?_
    refine lf_aload_n d_V_init_94 rfl rfl rfl ?_
    refine gi_geti s_V_init_95 rfl rfl ?_
    refine gi_top (b := ((1 : Nat) : Int)) rfl ?_
    refine gi_imulN (a := n) (b := 1) d_V_init_98 ?_
    refine lf_istore_n d_V_init_99 rfl (by decide +kernel) (L2 := [(2, _), (0, _), (1, _)]) rfl ?_
    refine lf_aload_n d_V_init_100 rfl rfl rfl ?_
    refine lf_iload_n d_V_init_101 rfl rfl ?_
    refine gi_newB_long d_V_init_102 tA_long (m := (n * 1)) (B := 160) (q := 26) (by omega) (by decide) (hf 26 (by decide) (by decide)) ?_
    refine gi_putr s_V_init_104 rfl rfl rfl rfl rfl ?_
    refine lf_aload_n d_V_init_107 rfl rfl rfl ?_
    refine lf_iload_n d_V_init_108 rfl rfl ?_
    refine gi_newB_long d_V_init_109 tA_long (m := (n * 1)) (B := 160) (q := 27) (by omega) (by decide) (hf 27 (by decide) (by decide)) ?_
    refine gi_putr s_V_init_111 rfl rfl rfl rfl rfl ?_
    refine lf_aload_n d_V_init_114 rfl rfl rfl ?_
    refine lf_iload_n d_V_init_115 rfl rfl ?_
    refine gi_newB_long d_V_init_116 tA_long (m := (n * 1)) (B := 160) (q := 28) (by omega) (by decide) (hf 28 (by decide) (by decide)) ?_
    refine gi_putr s_V_init_118 rfl rfl rfl rfl rfl ?_
    refine lf_aload_n d_V_init_121 rfl rfl rfl ?_
    refine lf_aload_n d_V_init_122 rfl rfl rfl ?_
    refine gi_geti s_V_init_123 rfl rfl ?_
    refine gi_top (b := ((1 : Nat) : Int)) rfl ?_
    refine gi_newB_long d_V_init_126 tA_long (m := 1) (B := 2) (q := 29) (by omega) (by decide) (hf 29 (by decide) (by decide)) ?_
    refine gi_putr s_V_init_128 rfl rfl rfl rfl rfl ?_
    refine lf_aload_n d_V_init_131 rfl rfl rfl ?_
    refine lf_aload_n d_V_init_132 rfl rfl rfl ?_
    refine gi_geti s_V_init_133 rfl rfl ?_
    refine gi_top (b := ((1 : Nat) : Int)) rfl ?_
    refine gi_newB_long d_V_init_136 tA_long (m := 1) (B := 2) (q := 30) (by omega) (by decide) (hf 30 (by decide) (by decide)) ?_
    refine gi_putr s_V_init_138 rfl rfl rfl rfl rfl ?_
    refine lf_aload_n d_V_init_141 rfl rfl rfl ?_
    refine lf_iconst d_V_init_142 (v := Int32.ofInt ((0 : Nat) : Int)) rfl ?_
    refine gi_puti s_V_init_143 rfl rfl ?_
    refine lf_aload_n d_V_init_146 rfl rfl rfl ?_
    refine lf_iconst d_V_init_147 (v := Int32.ofInt ((1 : Nat) : Int)) rfl ?_
    refine lf_aload_n d_V_init_148 rfl rfl rfl ?_
    refine gi_geti s_V_init_149 rfl rfl ?_
    refine gi_top (b := ((s : Nat) : Int)) rfl ?_
    refine gi_ishlN (a := 1) (s := s) d_V_init_152 (by omega) ?_
    refine gi_top (show ((1 * 2 ^ s : Nat) : Int) = ((2 ^ s : Nat) : Int) from by rw [Nat.one_mul]) ?_
    refine gi_puti s_V_init_153 rfl rfl ?_
    refine lf_aload_n d_V_init_156 rfl rfl rfl ?_
    refine gi_pushl s_V_init_157 ?_
    refine gi_putl s_V_init_160 rfl rfl ?_
    refine gw_ret d_V_init_163 rfl ?_
    exact ⟨rfl, (by repeat (first | exact KEEP_rf | refine KEEP_s (by omega) ?_ | refine KEEP_i (by omega) ?_ | refine KEEP_z (by omega) ?_ | refine KEEP_j (by omega) ?_ | refine KEEP_y (by omega) ?_)), ⟨rfl, rfl, rfl, rfl, rfl, rfl⟩, rfl, rfl, (by show _ = evr s; unfold evr; rw [if_neg (by omega)]; rfl), rfl, rfl, rfl, fun q => ⟨rfl, rfl, rfl⟩⟩
  · refine lf_aload_n d_V_init_0 rfl rfl rfl ?_
    refine gw_obj s_V_init_1 (Nat.le_of_ble_eq_true rfl) ?_
    refine lf_aload_n d_V_init_4 rfl rfl rfl ?_
    refine lf_aload_n d_V_init_5 rfl rfl rfl ?_
    refine gi_putr s_V_init_6 h0 rfl rfl rfl rfl ?_
    refine lf_aload_n d_V_init_9 rfl rfl rfl ?_
    refine lf_iconst d_V_init_10 (v := Int32.ofInt ((0 : Nat) : Int)) rfl ?_
    refine lf_bipush d_V_init_11 (v := Int32.ofInt ((14 : Nat) : Int)) (by decide +kernel) ?_
    refine lf_aload_n d_V_init_13 rfl rfl rfl ?_
    refine gw_callP s_V_init_14 (n_sourceCount hx (show clN _ from hN)) (S := [_, _, _]) rfl rfl (gcR_2 (c_1 hN)) (by decide) (by decide +kernel) (Nat.le_of_ble_eq_true rfl) ?_
    refine gi_top hsc ?_
    refine gi_min d_V_init_17 tminL_V_21 tminS tMI tminC (Nat.le_of_ble_eq_true rfl) (by omega) ?_
    refine gi_top (show min ((14 : Nat) : Int) ((6 : Nat) : Int) = ((6 : Nat) : Int) from by omega) ?_
    refine gi_max d_V_init_20 tmaxL_V_27 tmaxS tMI tmaxC (Nat.le_of_ble_eq_true rfl) (by omega) ?_
    refine gi_top (show max ((0 : Nat) : Int) ((6 : Nat) : Int) = ((6 : Nat) : Int) from by omega) ?_
    refine gi_puti s_V_init_23 rfl rfl ?_
    refine lf_aload_n d_V_init_26 rfl rfl rfl ?_
    refine lf_aload_n d_V_init_27 rfl rfl rfl ?_
    refine gi_geti s_V_init_28 rfl rfl ?_
    refine gi_top (b := ((6 : Nat) : Int)) rfl ?_
    refine lf_bipush d_V_init_31 (v := Int32.ofInt ((6 : Nat) : Int)) (by decide +kernel) ?_
    refine gi_icmp_le d_V_init_33 (tgt := 48) (by decide) (by omega) (fun hb33 => ?_) (fun hb33 => False.elim (by omega))
    refine lf_iconst d_V_init_48 (v := Int32.ofInt ((1 : Nat) : Int)) rfl ?_
    refine gi_puti s_V_init_49 rfl rfl ?_
    refine lf_aload_n d_V_init_52 rfl rfl rfl ?_
    refine lf_aload_n d_V_init_53 rfl rfl rfl ?_
    refine gi_geti s_V_init_54 rfl rfl ?_
    refine gi_top (b := ((6 : Nat) : Int)) rfl ?_
    refine lf_bipush d_V_init_57 (v := Int32.ofInt ((6 : Nat) : Int)) (by decide +kernel) ?_
    refine gi_icmp_lt d_V_init_59 (tgt := 68) (by decide) (by omega) (fun hb59 => False.elim (by omega)) (fun hb59 => ?_)
    refine gi_pushl s_V_init_62 ?_
    refine lf_goto d_V_init_65 (tgt := 78) (by decide) ?_
    refine gi_putl s_V_init_78 rfl rfl ?_
    refine lf_iconst d_V_init_81 (v := Int32.ofInt ((0 : Nat) : Int)) rfl ?_
    refine lf_bipush d_V_init_82 (v := Int32.ofInt ((80 : Nat) : Int)) (by decide +kernel) ?_
    refine lf_aload_n d_V_init_84 rfl rfl rfl ?_
    refine gi_geti s_V_init_85 (c_1 hN) rfl ?_
    refine gi_top hn ?_
    refine gi_min d_V_init_88 tminL_V_21 tminS tMI tminC (Nat.le_of_ble_eq_true rfl) (by omega) ?_
    refine gi_top (show min ((80 : Nat) : Int) ((n : Nat) : Int) = ((n : Nat) : Int) from by omega) ?_
    refine gi_max d_V_init_91 tmaxL_V_27 tmaxS tMI tmaxC (Nat.le_of_ble_eq_true rfl) (by omega) ?_
    refine gi_top (show max ((0 : Nat) : Int) ((n : Nat) : Int) = ((n : Nat) : Int) from by omega) ?_
    refine lf_aload_n d_V_init_94 rfl rfl rfl ?_
    refine gi_geti s_V_init_95 rfl rfl ?_
    refine gi_top (b := ((1 : Nat) : Int)) rfl ?_
    refine gi_imulN (a := n) (b := 1) d_V_init_98 ?_
    refine lf_istore_n d_V_init_99 rfl (by decide +kernel) (L2 := [(2, _), (0, _), (1, _)]) rfl ?_
    refine lf_aload_n d_V_init_100 rfl rfl rfl ?_
    refine lf_iload_n d_V_init_101 rfl rfl ?_
    refine gi_newB_long d_V_init_102 tA_long (m := (n * 1)) (B := 160) (q := 26) (by omega) (by decide) (hf 26 (by decide) (by decide)) ?_
    refine gi_putr s_V_init_104 rfl rfl rfl rfl rfl ?_
    refine lf_aload_n d_V_init_107 rfl rfl rfl ?_
    refine lf_iload_n d_V_init_108 rfl rfl ?_
    refine gi_newB_long d_V_init_109 tA_long (m := (n * 1)) (B := 160) (q := 27) (by omega) (by decide) (hf 27 (by decide) (by decide)) ?_
    refine gi_putr s_V_init_111 rfl rfl rfl rfl rfl ?_
    refine lf_aload_n d_V_init_114 rfl rfl rfl ?_
    refine lf_iload_n d_V_init_115 rfl rfl ?_
    refine gi_newB_long d_V_init_116 tA_long (m := (n * 1)) (B := 160) (q := 28) (by omega) (by decide) (hf 28 (by decide) (by decide)) ?_
    refine gi_putr s_V_init_118 rfl rfl rfl rfl rfl ?_
    refine lf_aload_n d_V_init_121 rfl rfl rfl ?_
    refine lf_aload_n d_V_init_122 rfl rfl rfl ?_
    refine gi_geti s_V_init_123 rfl rfl ?_
    refine gi_top (b := ((1 : Nat) : Int)) rfl ?_
    refine gi_newB_long d_V_init_126 tA_long (m := 1) (B := 2) (q := 29) (by omega) (by decide) (hf 29 (by decide) (by decide)) ?_
    refine gi_putr s_V_init_128 rfl rfl rfl rfl rfl ?_
    refine lf_aload_n d_V_init_131 rfl rfl rfl ?_
    refine lf_aload_n d_V_init_132 rfl rfl rfl ?_
    refine gi_geti s_V_init_133 rfl rfl ?_
    refine gi_top (b := ((1 : Nat) : Int)) rfl ?_
    refine gi_newB_long d_V_init_136 tA_long (m := 1) (B := 2) (q := 30) (by omega) (by decide) (hf 30 (by decide) (by decide)) ?_
    refine gi_putr s_V_init_138 rfl rfl rfl rfl rfl ?_
    refine lf_aload_n d_V_init_141 rfl rfl rfl ?_
    refine lf_iconst d_V_init_142 (v := Int32.ofInt ((0 : Nat) : Int)) rfl ?_
    refine gi_puti s_V_init_143 rfl rfl ?_
    refine lf_aload_n d_V_init_146 rfl rfl rfl ?_
    refine lf_iconst d_V_init_147 (v := Int32.ofInt ((1 : Nat) : Int)) rfl ?_
    refine lf_aload_n d_V_init_148 rfl rfl rfl ?_
    refine gi_geti s_V_init_149 rfl rfl ?_
    refine gi_top (b := ((6 : Nat) : Int)) rfl ?_
    refine gi_ishlN (a := 1) (s := 6) d_V_init_152 (by omega) ?_
    refine gi_top (show ((1 * 2 ^ 6 : Nat) : Int) = ((2 ^ 6 : Nat) : Int) from by rw [Nat.one_mul]) ?_
    refine gi_puti s_V_init_153 rfl rfl ?_
    refine lf_aload_n d_V_init_156 rfl rfl rfl ?_
    refine gi_pushl s_V_init_157 ?_
    refine gi_putl s_V_init_160 rfl rfl ?_
    refine gw_ret d_V_init_163 rfl ?_
    exact ⟨rfl, (by repeat (first | exact KEEP_rf | refine KEEP_s (by omega) ?_ | refine KEEP_i (by omega) ?_ | refine KEEP_z (by omega) ?_ | refine KEEP_j (by omega) ?_ | refine KEEP_y (by omega) ?_)), ⟨rfl, rfl, rfl, rfl, rfl, rfl⟩, rfl, rfl, rfl, rfl, rfl, rfl, fun q => ⟨rfl, rfl, rfl⟩⟩
  · refine lf_aload_n d_V_init_0 rfl rfl rfl ?_
    refine gw_obj s_V_init_1 (Nat.le_of_ble_eq_true rfl) ?_
    refine lf_aload_n d_V_init_4 rfl rfl rfl ?_
    refine lf_aload_n d_V_init_5 rfl rfl rfl ?_
    refine gi_putr s_V_init_6 h0 rfl rfl rfl rfl ?_
    refine lf_aload_n d_V_init_9 rfl rfl rfl ?_
    refine lf_iconst d_V_init_10 (v := Int32.ofInt ((0 : Nat) : Int)) rfl ?_
    refine lf_bipush d_V_init_11 (v := Int32.ofInt ((14 : Nat) : Int)) (by decide +kernel) ?_
    refine lf_aload_n d_V_init_13 rfl rfl rfl ?_
    refine gw_callP s_V_init_14 (n_sourceCount hx (show clN _ from hN)) (S := [_, _, _]) rfl rfl (gcR_2 (c_1 hN)) (by decide) (by decide +kernel) (Nat.le_of_ble_eq_true rfl) ?_
    refine gi_top hsc ?_
    refine gi_min d_V_init_17 tminL_V_21 tminS tMI tminC (Nat.le_of_ble_eq_true rfl) (by omega) ?_
    refine gi_top (show min ((14 : Nat) : Int) ((7 : Nat) : Int) = ((7 : Nat) : Int) from by omega) ?_
    refine gi_max d_V_init_20 tmaxL_V_27 tmaxS tMI tmaxC (Nat.le_of_ble_eq_true rfl) (by omega) ?_
    refine gi_top (show max ((0 : Nat) : Int) ((7 : Nat) : Int) = ((7 : Nat) : Int) from by omega) ?_
    refine gi_puti s_V_init_23 rfl rfl ?_
    refine lf_aload_n d_V_init_26 rfl rfl rfl ?_
    refine lf_aload_n d_V_init_27 rfl rfl rfl ?_
    refine gi_geti s_V_init_28 rfl rfl ?_
    refine gi_top (b := ((7 : Nat) : Int)) rfl ?_
    refine lf_bipush d_V_init_31 (v := Int32.ofInt ((6 : Nat) : Int)) (by decide +kernel) ?_
    refine gi_icmp_le d_V_init_33 (tgt := 48) (by decide) (by omega) (fun hb33 => False.elim (by omega)) (fun hb33 => ?_)
    refine lf_iconst d_V_init_36 (v := Int32.ofInt ((1 : Nat) : Int)) rfl ?_
    refine lf_aload_n d_V_init_37 rfl rfl rfl ?_
    refine gi_geti s_V_init_38 rfl rfl ?_
    refine gi_top (b := ((7 : Nat) : Int)) rfl ?_
    refine lf_bipush d_V_init_41 (v := Int32.ofInt ((6 : Nat) : Int)) (by decide +kernel) ?_
    refine gi_isubN (a := 7) (b := 6) d_V_init_43 (by omega) ?_
    refine gi_ishlN (a := 1) (s := (7 - 6)) d_V_init_44 (by omega) ?_
    refine gi_top (b := ((2 : Nat) : Int)) rfl ?_
    refine lf_goto d_V_init_45 (tgt := 49) (by decide) ?_
    refine gi_puti s_V_init_49 rfl rfl ?_
    refine lf_aload_n d_V_init_52 rfl rfl rfl ?_
    refine lf_aload_n d_V_init_53 rfl rfl rfl ?_
    refine gi_geti s_V_init_54 rfl rfl ?_
    refine gi_top (b := ((7 : Nat) : Int)) rfl ?_
    refine lf_bipush d_V_init_57 (v := Int32.ofInt ((6 : Nat) : Int)) (by decide +kernel) ?_
    refine gi_icmp_lt d_V_init_59 (tgt := 68) (by decide) (by omega) (fun hb59 => False.elim (by omega)) (fun hb59 => ?_)
    refine gi_pushl s_V_init_62 ?_
    refine lf_goto d_V_init_65 (tgt := 78) (by decide) ?_
    refine gi_putl s_V_init_78 rfl rfl ?_
    refine lf_iconst d_V_init_81 (v := Int32.ofInt ((0 : Nat) : Int)) rfl ?_
    refine lf_bipush d_V_init_82 (v := Int32.ofInt ((80 : Nat) : Int)) (by decide +kernel) ?_
    refine lf_aload_n d_V_init_84 rfl rfl rfl ?_
    refine gi_geti s_V_init_85 (c_1 hN) rfl ?_
    refine gi_top hn ?_
    refine gi_min d_V_init_88 tminL_V_21 tminS tMI tminC (Nat.le_of_ble_eq_true rfl) (by omega) ?_
    refine gi_top (show min ((80 : Nat) : Int) ((n : Nat) : Int) = ((n : Nat) : Int) from by omega) ?_
    refine gi_max d_V_init_91 tmaxL_V_27 tmaxS tMI tmaxC (Nat.le_of_ble_eq_true rfl) (by omega) ?_
    refine gi_top (show max ((0 : Nat) : Int) ((n : Nat) : Int) = ((n : Nat) : Int) from by omega) ?_
    refine lf_aload_n d_V_init_94 rfl rfl rfl ?_
    refine gi_geti s_V_init_95 rfl rfl ?_
    refine gi_top (b := ((2 : Nat) : Int)) rfl ?_
    refine gi_imulN (a := n) (b := 2) d_V_init_98 ?_
    refine lf_istore_n d_V_init_99 rfl (by decide +kernel) (L2 := [(2, _), (0, _), (1, _)]) rfl ?_
    refine lf_aload_n d_V_init_100 rfl rfl rfl ?_
    refine lf_iload_n d_V_init_101 rfl rfl ?_
    refine gi_newB_long d_V_init_102 tA_long (m := (n * 2)) (B := 160) (q := 26) (by omega) (by decide) (hf 26 (by decide) (by decide)) ?_
    refine gi_putr s_V_init_104 rfl rfl rfl rfl rfl ?_
    refine lf_aload_n d_V_init_107 rfl rfl rfl ?_
    refine lf_iload_n d_V_init_108 rfl rfl ?_
    refine gi_newB_long d_V_init_109 tA_long (m := (n * 2)) (B := 160) (q := 27) (by omega) (by decide) (hf 27 (by decide) (by decide)) ?_
    refine gi_putr s_V_init_111 rfl rfl rfl rfl rfl ?_
    refine lf_aload_n d_V_init_114 rfl rfl rfl ?_
    refine lf_iload_n d_V_init_115 rfl rfl ?_
    refine gi_newB_long d_V_init_116 tA_long (m := (n * 2)) (B := 160) (q := 28) (by omega) (by decide) (hf 28 (by decide) (by decide)) ?_
    refine gi_putr s_V_init_118 rfl rfl rfl rfl rfl ?_
    refine lf_aload_n d_V_init_121 rfl rfl rfl ?_
    refine lf_aload_n d_V_init_122 rfl rfl rfl ?_
    refine gi_geti s_V_init_123 rfl rfl ?_
    refine gi_top (b := ((2 : Nat) : Int)) rfl ?_
    refine gi_newB_long d_V_init_126 tA_long (m := 2) (B := 2) (q := 29) (by omega) (by decide) (hf 29 (by decide) (by decide)) ?_
    refine gi_putr s_V_init_128 rfl rfl rfl rfl rfl ?_
    refine lf_aload_n d_V_init_131 rfl rfl rfl ?_
    refine lf_aload_n d_V_init_132 rfl rfl rfl ?_
    refine gi_geti s_V_init_133 rfl rfl ?_
    refine gi_top (b := ((2 : Nat) : Int)) rfl ?_
    refine gi_newB_long d_V_init_136 tA_long (m := 2) (B := 2) (q := 30) (by omega) (by decide) (hf 30 (by decide) (by decide)) ?_
    refine gi_putr s_V_init_138 rfl rfl rfl rfl rfl ?_
    refine lf_aload_n d_V_init_141 rfl rfl rfl ?_
    refine lf_iconst d_V_init_142 (v := Int32.ofInt ((0 : Nat) : Int)) rfl ?_
    refine gi_puti s_V_init_143 rfl rfl ?_
    refine lf_aload_n d_V_init_146 rfl rfl rfl ?_
    refine lf_iconst d_V_init_147 (v := Int32.ofInt ((1 : Nat) : Int)) rfl ?_
    refine lf_aload_n d_V_init_148 rfl rfl rfl ?_
    refine gi_geti s_V_init_149 rfl rfl ?_
    refine gi_top (b := ((7 : Nat) : Int)) rfl ?_
    refine gi_ishlN (a := 1) (s := 7) d_V_init_152 (by omega) ?_
    refine gi_top (show ((1 * 2 ^ 7 : Nat) : Int) = ((2 ^ 7 : Nat) : Int) from by rw [Nat.one_mul]) ?_
    refine gi_puti s_V_init_153 rfl rfl ?_
    refine lf_aload_n d_V_init_156 rfl rfl rfl ?_
    refine gi_pushl s_V_init_157 ?_
    refine gi_putl s_V_init_160 rfl rfl ?_
    refine gw_ret d_V_init_163 rfl ?_
    exact ⟨rfl, (by repeat (first | exact KEEP_rf | refine KEEP_s (by omega) ?_ | refine KEEP_i (by omega) ?_ | refine KEEP_z (by omega) ?_ | refine KEEP_j (by omega) ?_ | refine KEEP_y (by omega) ?_)), ⟨rfl, rfl, rfl, rfl, rfl, rfl⟩, rfl, rfl, rfl, rfl, rfl, rfl, fun q => ⟨rfl, rfl, rfl⟩⟩
end CO4
