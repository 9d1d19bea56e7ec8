section CO2
variable {X : XT} {L9 : Nat} {xs : Nat → Int32} {sh : sM} {I : mI} {J : mJ}

variable {D : mF} {P : Option Value → mF → Prop} {PX : String → mF → Prop} {kc ks : Nat}

theorem m_init (hx : HX X L9 xs) (h0 : sh 0 = some (.inr (0, [.null, .null, .null]))) (hf : ∀ a, 1 ≤ a → a ≤ 13 → sh a = none)  : EVa TT cl6 X mi_M_init 1 13 631 [.ref 0] sh I J (fun v s1 I1 J1 => v = none ∧ KEEP s1 I1 J1 sh I J 0 1 13 ∧ clM s1 .null ∧ clN s1 ∧ (∀ a, 3 ≤ a → a ≤ 13 → I1 a = fun _ => 0) ∧ I1 1 11 = 0 ∧ I1 1 12 = 0) := by
  refine gw_enter (hx_ok hx) (by decide +kernel) (Nat.le_of_ble_eq_true rfl) (L := [(0, _)]) rfl ?_
  refine lf_aload_n d_M_init_0 rfl rfl rfl ?_
  refine gw_obj s_M_init_1 (Nat.le_of_ble_eq_true rfl) ?_
  refine lf_aload_n d_M_init_4 rfl rfl rfl ?_
  refine gi_new s_M_init_5 cD_1 cZ_1 (q := 1) (hf 1 (by decide) (by decide)) ?_
  refine lf_dup d_M_init_8 rfl ?_
  refine gw_callA s_M_init_9 (n_init hx rfl (fun a h1 h2 => by (repeat rw [spt_o (by omega)]); exact hf a (by omega) (by omega))) (S := [_, _]) rfl rfl rfl rfl gcR_3 (by decide) (by decide +kernel) (Nat.le_of_ble_eq_true rfl) (kc := 1) (ks := 32) (fun v sh I J w9 hi9 => ?_)
  obtain ⟨rfl, wK, wN, wZ, w1, w2⟩ := w9
  have h0 := (wK 0 (by decide) (by decide)).1.trans h0
  refine gi_putr s_M_init_12 h0 rfl rfl rfl rfl ?_
  refine lf_aload_n d_M_init_15 rfl rfl rfl ?_
  refine lf_bipush d_M_init_16 (v := Int32.ofInt ((32 : Nat) : Int)) (by decide +kernel) ?_
  refine gi_newB_int d_M_init_18 tA_int (m := 32) (B := 32) (q := 2) (by omega) (by decide) ((wK 2 (by decide) (by decide)).1.trans (hf 2 (by decide) (by decide))) ?_
  refine gi_putr s_M_init_20 rfl rfl rfl rfl rfl ?_
  refine lf_aload_n d_M_init_23 rfl rfl rfl ?_
  refine lf_null d_M_init_24 ?_
  refine gi_putr s_M_init_25 rfl rfl rfl rfl rfl ?_
  refine gw_ret d_M_init_28 rfl ?_
  exact ⟨rfl, (by repeat (first | exact KEEP_rf | refine KEEP_tr wK ?_ (by omega) (by omega) | refine KEEP_s (by omega) ?_ | refine KEEP_i (by omega) ?_ | refine KEEP_z (by omega) ?_ | refine KEEP_j (by omega) ?_ | refine KEEP_y (by omega) ?_)), ⟨rfl, rfl⟩, ⟨c_1 wN, c_3 wN, c_4 wN, c_5 wN, c_6 wN, c_7 wN, c_8 wN, c_9 wN, c_10 wN, c_11 wN, c_12 wN, c_13 wN⟩, (fun a h1 h2 => by
      rw [show izr I 2 a = I a from izr_o (by omega)]
      exact wZ a h1 h2), w1, w2⟩
theorem k_init48 (hx : HX X L9 xs) (h0 : sh 48 = some (.inr (11, [.null, .null, .null, .int 0, .int 0]))) (hf : ∀ a, 49 ≤ a → a ≤ 51 → sh a = none)  : EVa TT cl6 X mi_K_init 0 3 160 [.ref 48] sh I J (fun v s1 I1 J1 => v = none ∧ KEEP s1 I1 J1 sh I J 48 49 51 ∧ True) := by
  refine gw_enter (hx_ok hx) (by decide +kernel) (Nat.le_of_ble_eq_true rfl) (L := [(0, _)]) rfl ?_
  refine lf_aload_n d_K_init_0 rfl rfl rfl ?_
  refine gw_obj s_K_init_1 (Nat.le_of_ble_eq_true rfl) ?_
  refine lf_aload_n d_K_init_4 rfl rfl rfl ?_
  refine lf_bipush d_K_init_5 (v := Int32.ofInt ((32 : Nat) : Int)) (by decide +kernel) ?_
  refine gi_newB_long d_K_init_7 tA_long (m := 32) (B := 32) (q := 49) (by omega) (by decide) (hf 49 (by decide) (by decide)) ?_
  refine gi_putr s_K_init_9 h0 rfl rfl rfl rfl ?_
  refine lf_aload_n d_K_init_12 rfl rfl rfl ?_
  refine lf_bipush d_K_init_13 (v := Int32.ofInt ((64 : Nat) : Int)) (by decide +kernel) ?_
  refine gi_newB_int d_K_init_15 tA_int (m := 64) (B := 64) (q := 50) (by omega) (by decide) (hf 50 (by decide) (by decide)) ?_
  refine gi_putr s_K_init_17 rfl rfl rfl rfl rfl ?_
  refine lf_aload_n d_K_init_20 rfl rfl rfl ?_
  refine lf_bipush d_K_init_21 (v := Int32.ofInt ((64 : Nat) : Int)) (by decide +kernel) ?_
  refine gi_newB_int d_K_init_23 tA_int (m := 64) (B := 64) (q := 51) (by omega) (by decide) (hf 51 (by decide) (by decide)) ?_
  refine gi_putr s_K_init_25 rfl rfl rfl rfl rfl ?_
  refine lf_aload_n d_K_init_28 rfl rfl rfl ?_
  refine lf_iconst d_K_init_29 (v := Int32.ofInt ((0 : Nat) : Int)) rfl ?_
  refine gi_puti s_K_init_30 rfl rfl ?_
  refine lf_aload_n d_K_init_33 rfl rfl rfl ?_
  refine lf_iconst d_K_init_34 (v := Int32.ofInt ((1 : Nat) : Int)) rfl ?_
  refine gi_puti s_K_init_35 rfl rfl ?_
  refine gw_ret d_K_init_38 rfl ?_
  exact ⟨rfl, (by repeat (first | exact KEEP_rf | refine KEEP_s (by omega) ?_ | refine KEEP_i (by omega) ?_ | refine KEEP_z (by omega) ?_ | refine KEEP_j (by omega) ?_ | refine KEEP_y (by omega) ?_)), trivial⟩
theorem k_init52 (hx : HX X L9 xs) (h0 : sh 52 = some (.inr (11, [.null, .null, .null, .int 0, .int 0]))) (hf : ∀ a, 53 ≤ a → a ≤ 55 → sh a = none)  : EVa TT cl6 X mi_K_init 0 3 160 [.ref 52] sh I J (fun v s1 I1 J1 => v = none ∧ KEEP s1 I1 J1 sh I J 52 53 55 ∧ True) := by
  refine gw_enter (hx_ok hx) (by decide +kernel) (Nat.le_of_ble_eq_true rfl) (L := [(0, _)]) rfl ?_
  refine lf_aload_n d_K_init_0 rfl rfl rfl ?_
  refine gw_obj s_K_init_1 (Nat.le_of_ble_eq_true rfl) ?_
  refine lf_aload_n d_K_init_4 rfl rfl rfl ?_
  refine lf_bipush d_K_init_5 (v := Int32.ofInt ((32 : Nat) : Int)) (by decide +kernel) ?_
  refine gi_newB_long d_K_init_7 tA_long (m := 32) (B := 32) (q := 53) (by omega) (by decide) (hf 53 (by decide) (by decide)) ?_
  refine gi_putr s_K_init_9 h0 rfl rfl rfl rfl ?_
  refine lf_aload_n d_K_init_12 rfl rfl rfl ?_
  refine lf_bipush d_K_init_13 (v := Int32.ofInt ((64 : Nat) : Int)) (by decide +kernel) ?_
  refine gi_newB_int d_K_init_15 tA_int (m := 64) (B := 64) (q := 54) (by omega) (by decide) (hf 54 (by decide) (by decide)) ?_
  refine gi_putr s_K_init_17 rfl rfl rfl rfl rfl ?_
  refine lf_aload_n d_K_init_20 rfl rfl rfl ?_
  refine lf_bipush d_K_init_21 (v := Int32.ofInt ((64 : Nat) : Int)) (by decide +kernel) ?_
  refine gi_newB_int d_K_init_23 tA_int (m := 64) (B := 64) (q := 55) (by omega) (by decide) (hf 55 (by decide) (by decide)) ?_
  refine gi_putr s_K_init_25 rfl rfl rfl rfl rfl ?_
  refine lf_aload_n d_K_init_28 rfl rfl rfl ?_
  refine lf_iconst d_K_init_29 (v := Int32.ofInt ((0 : Nat) : Int)) rfl ?_
  refine gi_puti s_K_init_30 rfl rfl ?_
  refine lf_aload_n d_K_init_33 rfl rfl rfl ?_
  refine lf_iconst d_K_init_34 (v := Int32.ofInt ((1 : Nat) : Int)) rfl ?_
  refine gi_puti s_K_init_35 rfl rfl ?_
  refine gw_ret d_K_init_38 rfl ?_
  exact ⟨rfl, (by repeat (first | exact KEEP_rf | refine KEEP_s (by omega) ?_ | refine KEEP_i (by omega) ?_ | refine KEEP_z (by omega) ?_ | refine KEEP_j (by omega) ?_ | refine KEEP_y (by omega) ?_)), trivial⟩
theorem k_init58 (hx : HX X L9 xs) (h0 : sh 58 = some (.inr (11, [.null, .null, .null, .int 0, .int 0]))) (hf : ∀ a, 59 ≤ a → a ≤ 61 → sh a = none)  : EVa TT cl6 X mi_K_init 0 3 160 [.ref 58] sh I J (fun v s1 I1 J1 => v = none ∧ KEEP s1 I1 J1 sh I J 58 59 61 ∧ True) := by
  refine gw_enter (hx_ok hx) (by decide +kernel) (Nat.le_of_ble_eq_true rfl) (L := [(0, _)]) rfl ?_
  refine lf_aload_n d_K_init_0 rfl rfl rfl ?_
  refine gw_obj s_K_init_1 (Nat.le_of_ble_eq_true rfl) ?_
  refine lf_aload_n d_K_init_4 rfl rfl rfl ?_
  refine lf_bipush d_K_init_5 (v := Int32.ofInt ((32 : Nat) : Int)) (by decide +kernel) ?_
  refine gi_newB_long d_K_init_7 tA_long (m := 32) (B := 32) (q := 59) (by omega) (by decide) (hf 59 (by decide) (by decide)) ?_
  refine gi_putr s_K_init_9 h0 rfl rfl rfl rfl ?_
  refine lf_aload_n d_K_init_12 rfl rfl rfl ?_
  refine lf_bipush d_K_init_13 (v := Int32.ofInt ((64 : Nat) : Int)) (by decide +kernel) ?_
  refine gi_newB_int d_K_init_15 tA_int (m := 64) (B := 64) (q := 60) (by omega) (by decide) (hf 60 (by decide) (by decide)) ?_
  refine gi_putr s_K_init_17 rfl rfl rfl rfl rfl ?_
  refine lf_aload_n d_K_init_20 rfl rfl rfl ?_
  refine lf_bipush d_K_init_21 (v := Int32.ofInt ((64 : Nat) : Int)) (by decide +kernel) ?_
  refine gi_newB_int d_K_init_23 tA_int (m := 64) (B := 64) (q := 61) (by omega) (by decide) (hf 61 (by decide) (by decide)) ?_
  refine gi_putr s_K_init_25 rfl rfl rfl rfl rfl ?_
  refine lf_aload_n d_K_init_28 rfl rfl rfl ?_
  refine lf_iconst d_K_init_29 (v := Int32.ofInt ((0 : Nat) : Int)) rfl ?_
  refine gi_puti s_K_init_30 rfl rfl ?_
  refine lf_aload_n d_K_init_33 rfl rfl rfl ?_
  refine lf_iconst d_K_init_34 (v := Int32.ofInt ((1 : Nat) : Int)) rfl ?_
  refine gi_puti s_K_init_35 rfl rfl ?_
  refine gw_ret d_K_init_38 rfl ?_
  exact ⟨rfl, (by repeat (first | exact KEEP_rf | refine KEEP_s (by omega) ?_ | refine KEEP_i (by omega) ?_ | refine KEEP_z (by omega) ?_ | refine KEEP_j (by omega) ?_ | refine KEEP_y (by omega) ?_)), trivial⟩
theorem k_init65 (hx : HX X L9 xs) (h0 : sh 65 = some (.inr (11, [.null, .null, .null, .int 0, .int 0]))) (hf : ∀ a, 66 ≤ a → a ≤ 68 → sh a = none)  : EVa TT cl6 X mi_K_init 0 3 160 [.ref 65] sh I J (fun v s1 I1 J1 => v = none ∧ KEEP s1 I1 J1 sh I J 65 66 68 ∧ True) := by
  refine gw_enter (hx_ok hx) (by decide +kernel) (Nat.le_of_ble_eq_true rfl) (L := [(0, _)]) rfl ?_
  refine lf_aload_n d_K_init_0 rfl rfl rfl ?_
  refine gw_obj s_K_init_1 (Nat.le_of_ble_eq_true rfl) ?_
  refine lf_aload_n d_K_init_4 rfl rfl rfl ?_
  refine lf_bipush d_K_init_5 (v := Int32.ofInt ((32 : Nat) : Int)) (by decide +kernel) ?_
  refine gi_newB_long d_K_init_7 tA_long (m := 32) (B := 32) (q := 66) (by omega) (by decide) (hf 66 (by decide) (by decide)) ?_
  refine gi_putr s_K_init_9 h0 rfl rfl rfl rfl ?_
  refine lf_aload_n d_K_init_12 rfl rfl rfl ?_
  refine lf_bipush d_K_init_13 (v := Int32.ofInt ((64 : Nat) : Int)) (by decide +kernel) ?_
  refine gi_newB_int d_K_init_15 tA_int (m := 64) (B := 64) (q := 67) (by omega) (by decide) (hf 67 (by decide) (by decide)) ?_
  refine gi_putr s_K_init_17 rfl rfl rfl rfl rfl ?_
  refine lf_aload_n d_K_init_20 rfl rfl rfl ?_
  refine lf_bipush d_K_init_21 (v := Int32.ofInt ((64 : Nat) : Int)) (by decide +kernel) ?_
  refine gi_newB_int d_K_init_23 tA_int (m := 64) (B := 64) (q := 68) (by omega) (by decide) (hf 68 (by decide) (by decide)) ?_
  refine gi_putr s_K_init_25 rfl rfl rfl rfl rfl ?_
  refine lf_aload_n d_K_init_28 rfl rfl rfl ?_
  refine lf_iconst d_K_init_29 (v := Int32.ofInt ((0 : Nat) : Int)) rfl ?_
  refine gi_puti s_K_init_30 rfl rfl ?_
  refine lf_aload_n d_K_init_33 rfl rfl rfl ?_
  refine lf_iconst d_K_init_34 (v := Int32.ofInt ((1 : Nat) : Int)) rfl ?_
  refine gi_puti s_K_init_35 rfl rfl ?_
  refine gw_ret d_K_init_38 rfl ?_
  exact ⟨rfl, (by repeat (first | exact KEEP_rf | refine KEEP_s (by omega) ?_ | refine KEEP_i (by omega) ?_ | refine KEEP_z (by omega) ?_ | refine KEEP_j (by omega) ?_ | refine KEEP_y (by omega) ?_)), trivial⟩
theorem k_init72 (hx : HX X L9 xs) (h0 : sh 72 = some (.inr (11, [.null, .null, .null, .int 0, .int 0]))) (hf : ∀ a, 73 ≤ a → a ≤ 75 → sh a = none)  : EVa TT cl6 X mi_K_init 0 3 160 [.ref 72] sh I J (fun v s1 I1 J1 => v = none ∧ KEEP s1 I1 J1 sh I J 72 73 75 ∧ True) := by
  refine gw_enter (hx_ok hx) (by decide +kernel) (Nat.le_of_ble_eq_true rfl) (L := [(0, _)]) rfl ?_
  refine lf_aload_n d_K_init_0 rfl rfl rfl ?_
  refine gw_obj s_K_init_1 (Nat.le_of_ble_eq_true rfl) ?_
  refine lf_aload_n d_K_init_4 rfl rfl rfl ?_
  refine lf_bipush d_K_init_5 (v := Int32.ofInt ((32 : Nat) : Int)) (by decide +kernel) ?_
  refine gi_newB_long d_K_init_7 tA_long (m := 32) (B := 32) (q := 73) (by omega) (by decide) (hf 73 (by decide) (by decide)) ?_
  refine gi_putr s_K_init_9 h0 rfl rfl rfl rfl ?_
  refine lf_aload_n d_K_init_12 rfl rfl rfl ?_
  refine lf_bipush d_K_init_13 (v := Int32.ofInt ((64 : Nat) : Int)) (by decide +kernel) ?_
  refine gi_newB_int d_K_init_15 tA_int (m := 64) (B := 64) (q := 74) (by omega) (by decide) (hf 74 (by decide) (by decide)) ?_
  refine gi_putr s_K_init_17 rfl rfl rfl rfl rfl ?_
  refine lf_aload_n d_K_init_20 rfl rfl rfl ?_
  refine lf_bipush d_K_init_21 (v := Int32.ofInt ((64 : Nat) : Int)) (by decide +kernel) ?_
  refine gi_newB_int d_K_init_23 tA_int (m := 64) (B := 64) (q := 75) (by omega) (by decide) (hf 75 (by decide) (by decide)) ?_
  refine gi_putr s_K_init_25 rfl rfl rfl rfl rfl ?_
  refine lf_aload_n d_K_init_28 rfl rfl rfl ?_
  refine lf_iconst d_K_init_29 (v := Int32.ofInt ((0 : Nat) : Int)) rfl ?_
  refine gi_puti s_K_init_30 rfl rfl ?_
  refine lf_aload_n d_K_init_33 rfl rfl rfl ?_
  refine lf_iconst d_K_init_34 (v := Int32.ofInt ((1 : Nat) : Int)) rfl ?_
  refine gi_puti s_K_init_35 rfl rfl ?_
  refine gw_ret d_K_init_38 rfl ?_
  exact ⟨rfl, (by repeat (first | exact KEEP_rf | refine KEEP_s (by omega) ?_ | refine KEEP_i (by omega) ?_ | refine KEEP_z (by omega) ?_ | refine KEEP_j (by omega) ?_ | refine KEEP_y (by omega) ?_)), trivial⟩
theorem a_init (hx : HX X L9 xs) (h0 : sh 16 = some (.inr (4, [.null, .null, .null, .null, .int 0, .int 0]))) (hf : ∀ a, 31 ≤ a → a ≤ 33 → sh a = none) (hN : clN sh) {s : Nat} (hsc : I 1 12 + I 11 0 + I 11 1 = (s : Int)) (hs7 : s ≤ 7)  : EVa TT cl6 X mi_A_init 3 3 592 [.ref 16, .ref 1] sh I J (fun v s1 I1 J1 => v = none ∧ KEEP s1 I1 J1 sh I J 16 31 33 ∧ clA s1 ∧ (∀ j, I1 31 j = 0 ∧ I1 32 j = 0) ∧ I1 16 4 = ((s + 1 : Nat) : Int) ∧ I1 16 5 = ((s + 1 : Nat) : Int)) := by
  refine gw_enter (hx_ok hx) (by decide +kernel) (Nat.le_of_ble_eq_true rfl) (L := [(0, _), (1, _)]) rfl ?_
  refine lf_aload_n d_A_init_0 rfl rfl rfl ?_
  refine gw_obj s_A_init_1 (Nat.le_of_ble_eq_true rfl) ?_
  refine lf_aload_n d_A_init_4 rfl rfl rfl ?_
  refine lf_aload_n d_A_init_5 rfl rfl rfl ?_
  refine gi_putr s_A_init_6 h0 rfl rfl rfl rfl ?_
  refine lf_aload_n d_A_init_9 rfl rfl rfl ?_
  refine lf_sipush d_A_init_10 (v := Int32.ofInt ((256 : Nat) : Int)) (by decide +kernel) ?_
  refine gi_newB_int d_A_init_13 tA_int (m := 256) (B := 256) (q := 31) (by omega) (by decide) (hf 31 (by decide) (by decide)) ?_
  refine gi_putr s_A_init_15 rfl rfl rfl rfl rfl ?_
  refine lf_aload_n d_A_init_18 rfl rfl rfl ?_
  refine lf_sipush d_A_init_19 (v := Int32.ofInt ((256 : Nat) : Int)) (by decide +kernel) ?_
  refine gi_newB_int d_A_init_22 tA_int (m := 256) (B := 256) (q := 32) (by omega) (by decide) (hf 32 (by decide) (by decide)) ?_
  refine gi_putr s_A_init_24 rfl rfl rfl rfl rfl ?_
  refine lf_aload_n d_A_init_27 rfl rfl rfl ?_
  refine lf_bipush d_A_init_28 (v := Int32.ofInt ((80 : Nat) : Int)) (by decide +kernel) ?_
  refine gi_newB_int d_A_init_30 tA_int (m := 80) (B := 80) (q := 33) (by omega) (by decide) (hf 33 (by decide) (by decide)) ?_
  refine gi_putr s_A_init_32 rfl rfl rfl rfl rfl ?_
  refine lf_aload_n d_A_init_35 rfl rfl rfl ?_
  refine lf_iconst d_A_init_36 (v := Int32.ofInt ((1 : Nat) : Int)) rfl ?_
  refine lf_aload_n d_A_init_37 rfl rfl rfl ?_
  refine gw_callP s_A_init_38 (n_sourceCount hx (show clN _ from hN)) (S := [_, _]) rfl rfl (gcR_2 (c_1 hN)) (by decide) (by decide +kernel) (Nat.le_of_ble_eq_true rfl) ?_
  refine gi_top hsc ?_
  refine gi_iaddN (a := 1) (b := s) d_A_init_41 ?_
  refine gi_puti s_A_init_42 rfl rfl ?_
  refine lf_aload_n d_A_init_45 rfl rfl rfl ?_
  refine lf_aload_n d_A_init_46 rfl rfl rfl ?_
  refine gi_geti s_A_init_47 rfl rfl ?_
  refine gi_top (b := ((1 + s : Nat) : Int)) rfl ?_
  refine gi_puti s_A_init_50 rfl rfl ?_
  refine gw_ret d_A_init_53 rfl ?_
  exact ⟨rfl, (by repeat (first | exact KEEP_rf | refine KEEP_s (by omega) ?_ | refine KEEP_i (by omega) ?_ | refine KEEP_z (by omega) ?_ | refine KEEP_j (by omega) ?_ | refine KEEP_y (by omega) ?_)), ⟨rfl, rfl, rfl, rfl⟩, (fun j => ⟨rfl, rfl⟩), congrArg (fun z : Nat => (z : Int)) (Nat.add_comm 1 s), congrArg (fun z : Nat => (z : Int)) (Nat.add_comm 1 s)⟩
end CO2
