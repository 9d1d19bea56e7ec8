section CO3
variable {X : XT} {L9 : Nat} {xs : Nat → Int32} {sh : sM} {I : mI} {J : mJ}

variable {D : mF} {P : Option Value → mF → Prop} {PX : String → mF → Prop} {kc ks : Nat}

theorem KEEP_e {s1 s : sM} {I1 I2 I : mI} {J1 J : mJ} {c lo hi q : Nat} (he : ∀ a, ¬ a = q → I1 a = I2 a) (hq : q = c ∨ (lo ≤ q ∧ q ≤ hi)) (h : KEEP s1 I2 J1 s I J c lo hi) : KEEP s1 I1 J1 s I J c lo hi := fun a h1 h2 => ⟨(h a h1 h2).1, (he a (by omega)).trans (h a h1 h2).2.1, (h a h1 h2).2.2⟩
theorem s_init_l {n : Nat} (hn : n ≤ 80) (h1 : sh 17 = some (.inr (5, [.ref 1, .ref 15, .ref 34, .ref 35, .int 0, .int 0, .long 0, .int 0, .int 0]))) (h2 : sh 35 = some (.inl (.int, n, 0, fun _ => none))) (k56 : ∀ I1 : mI, ((∀ a, ¬ a = 35 → I1 a = I a) ∧ ∀ j, j < n → I1 35 j = ((2 * j : Nat) : Int)) → LXf TT cl6 X mi_S_init (40 + 1) (1000 + 200 * 1) D P PX kc ks 56 [(0, .ref 17)] [] (hp sh I1 J)) : ∀ (d k : Nat) (I1 : mI), k + d = n → ((∀ a, ¬ a = 35 → I1 a = I a) ∧ ∀ j, j < k → I1 35 j = ((2 * j : Nat) : Int)) → LXf TT cl6 X mi_S_init (40 + 1) (1000 + 200 * 1) D P PX kc ks 32 [(3, .int (Int32.ofInt ((k : Nat) : Int))), (0, .ref 17)] [] (hp sh I1 J) := by
  intro d
  induction d with
  | zero =>
    intro k I1 hd he
    obtain rfl : k = n := by omega
    refine lf_iload_n d_S_init_32 rfl rfl ?_
    refine lf_aload_n d_S_init_33 rfl rfl rfl ?_
    refine gi_getr s_S_init_34 h1 rfl ?_
    refine gi_len d_S_init_37 h2 ?_
    refine gi_icmp_ge d_S_init_38 (tgt := 56) (by decide) (by omega) (fun hb38 => ?_) (fun hb38 => False.elim (by omega))
    refine lf_sub [1] rfl ?_
    exact k56 I1 he
  | succ d ih =>
    intro k I1 hd he
    refine lf_iload_n d_S_init_32 rfl rfl ?_
    refine lf_aload_n d_S_init_33 rfl rfl rfl ?_
    refine gi_getr s_S_init_34 h1 rfl ?_
    refine gi_len d_S_init_37 h2 ?_
    refine gi_icmp_ge d_S_init_38 (tgt := 56) (by decide) (by omega) (fun hb38 => False.elim (by omega)) (fun hb38 => ?_)
    refine lf_aload_n d_S_init_41 rfl rfl rfl ?_
    refine gi_getr s_S_init_42 h1 rfl ?_
    refine lf_iload_n d_S_init_45 rfl rfl ?_
    refine lf_iconst d_S_init_46 (v := Int32.ofInt ((2 : Nat) : Int)) rfl ?_
    refine lf_iload_n d_S_init_47 rfl rfl ?_
    refine gi_imulN (a := 2) (b := k) d_S_init_48 ?_
    refine gi_iastoreN d_S_init_49 h2 (by omega) ?_
    refine gi_iincN d_S_init_50 rfl (by decide +kernel) (L2 := [(3, _), (0, _)]) rfl ?_
    refine lf_goto d_S_init_53 (tgt := 32) (by decide) ?_
    refine ih (k + 1) _ (by omega) ⟨fun a ha => by rw [ipt_o ha]; exact he.1 a ha, fun j hj => ?_⟩
    rw [ipt_s]
    by_cases q : j = k
    · rw [if_pos q, q]
    · rw [if_neg q]; exact he.2 j (by omega)
theorem s_init (hx : HX X L9 xs) (h0 : sh 17 = some (.inr (5, [.null, .null, .null, .null, .int 0, .int 0, .long 0, .int 0, .int 0]))) (hf : ∀ a, 34 ≤ a → a ≤ 35 → sh a = none)  : EVa TT cl6 X mi_S_init 1 2 160 [.ref 17, .ref 1, .ref 15] sh I J (fun v s1 I1 J1 => v = none ∧ KEEP s1 I1 J1 sh I J 17 34 35 ∧ clS s1 ∧ (∀ j, j < 80 → I1 35 j = ((2 * j : Nat) : Int)) ∧ I1 17 4 = 0 ∧ I1 17 5 = 0 ∧ I1 17 7 = 0 ∧ I1 17 8 = -1) := by
  refine gw_enter (hx_ok hx) (by decide +kernel) (Nat.le_of_ble_eq_true rfl) (L := [(0, _), (1, _), (2, _)]) rfl ?_
  refine lf_aload_n d_S_init_0 rfl rfl rfl ?_
  refine gw_obj s_S_init_1 (Nat.le_of_ble_eq_true rfl) ?_
  refine lf_aload_n d_S_init_4 rfl rfl rfl ?_
  refine lf_aload_n d_S_init_5 rfl rfl rfl ?_
  refine gi_putr s_S_init_6 h0 rfl rfl rfl rfl ?_
  refine lf_aload_n d_S_init_9 rfl rfl rfl ?_
  refine lf_aload_n d_S_init_10 rfl rfl rfl ?_
  refine gi_putr s_S_init_11 rfl rfl rfl rfl rfl ?_
  refine lf_aload_n d_S_init_14 rfl rfl rfl ?_
  refine lf_bipush d_S_init_15 (v := Int32.ofInt ((80 : Nat) : Int)) (by decide +kernel) ?_
  refine gi_newB_long d_S_init_17 tA_long (m := 80) (B := 80) (q := 34) (by omega) (by decide) (hf 34 (by decide) (by decide)) ?_
  refine gi_putr s_S_init_19 rfl rfl rfl rfl rfl ?_
  refine lf_aload_n d_S_init_22 rfl rfl rfl ?_
  refine lf_bipush d_S_init_23 (v := Int32.ofInt ((80 : Nat) : Int)) (by decide +kernel) ?_
  refine gi_newB_int d_S_init_25 tA_int (m := 80) (B := 80) (q := 35) (by omega) (by decide) (hf 35 (by decide) (by decide)) ?_
  refine gi_putr s_S_init_27 rfl rfl rfl rfl rfl ?_
  refine lf_iconst d_S_init_30 (v := Int32.ofInt ((0 : Nat) : Int)) rfl ?_
  refine lf_istore_n d_S_init_31 rfl (by decide +kernel) (L2 := [(3, _), (0, _), (1, _), (2, _)]) rfl ?_
  refine lf_sub [0, 1] rfl ?_
  refine s_init_l (n := 80) (by decide) rfl rfl (fun I1 he => ?_) 80 0 _ (by decide) ⟨fun _ _ => rfl, fun j hj => absurd hj (Nat.not_lt_zero j)⟩
  refine lf_aload_n d_S_init_56 rfl rfl rfl ?_
  refine lf_iconst d_S_init_57 (v := Int32.ofInt ((0 : Nat) : Int)) rfl ?_
  refine gi_puti s_S_init_58 rfl rfl ?_
  refine lf_aload_n d_S_init_61 rfl rfl rfl ?_
  refine lf_iconst d_S_init_62 (v := Int32.ofInt ((0 : Nat) : Int)) rfl ?_
  refine gi_puti s_S_init_63 rfl rfl ?_
  refine lf_aload_n d_S_init_66 rfl rfl rfl ?_
  refine lf_lconst d_S_init_67 rfl ?_
  refine gi_putl s_S_init_68 rfl rfl ?_
  refine lf_aload_n d_S_init_71 rfl rfl rfl ?_
  refine lf_iconst d_S_init_72 (v := Int32.ofInt ((0 : Nat) : Int)) rfl ?_
  refine gi_puti s_S_init_73 rfl rfl ?_
  refine lf_aload_n d_S_init_76 rfl rfl rfl ?_
  refine lf_iconst d_S_init_77 (v := Int32.ofInt (-1)) rfl ?_
  refine gi_puti s_S_init_78 rfl rfl ?_
  refine gw_ret d_S_init_81 rfl ?_
  exact ⟨rfl, (by repeat (first | exact KEEP_rf | refine KEEP_e he.1 (by omega) ?_ | refine KEEP_s (by omega) ?_ | refine KEEP_i (by omega) ?_ | refine KEEP_z (by omega) ?_ | refine KEEP_j (by omega) ?_ | refine KEEP_y (by omega) ?_)), ⟨rfl, rfl, rfl⟩, (fun j hj => he.2 j hj), rfl, rfl, rfl, rfl⟩
theorem d_init_l {n : Nat} (hn : n ≤ 80) (h1 : sh 18 = some (.inr (7, [.ref 1, .ref 15, .int 0, .int 0, .ref 44, .ref 45, .null, .null, .null, .null, .int 0]))) (h2 : sh 44 = some (.inl (.int, n, 0, fun _ => none))) (k56 : ∀ I1 : mI, ((∀ a, ¬ a = 44 → I1 a = I a) ∧ ∀ j, j < n → I1 44 j = ((j : Nat) : Int)) → LXf TT cl6 X mi_D_init (40 + 1) (1000 + 200 * 1) D P PX kc ks 74 [(0, .ref 18), (2, .ref 15)] [] (hp sh I1 J)) : ∀ (d k : Nat) (I1 : mI), k + d = n → ((∀ a, ¬ a = 44 → I1 a = I a) ∧ ∀ j, j < k → I1 44 j = ((j : Nat) : Int)) → LXf TT cl6 X mi_D_init (40 + 1) (1000 + 200 * 1) D P PX kc ks 52 [(3, .int (Int32.ofInt ((k : Nat) : Int))), (0, .ref 18), (2, .ref 15)] [] (hp sh I1 J) := by
  intro d
  induction d with
  | zero =>
    intro k I1 hd he
    obtain rfl : k = n := by omega
    refine lf_iload_n d_D_init_52 rfl rfl ?_
    refine lf_aload_n d_D_init_53 rfl rfl rfl ?_
    refine gi_getr s_D_init_54 h1 rfl ?_
    refine gi_len d_D_init_57 h2 ?_
    refine gi_icmp_ge d_D_init_58 (tgt := 74) (by decide) (by omega) (fun hb58 => ?_) (fun hb58 => False.elim (by omega))
    refine lf_sub [1, 2] rfl ?_
    exact k56 I1 he
  | succ d ih =>
    intro k I1 hd he
    refine lf_iload_n d_D_init_52 rfl rfl ?_
    refine lf_aload_n d_D_init_53 rfl rfl rfl ?_
    refine gi_getr s_D_init_54 h1 rfl ?_
    refine gi_len d_D_init_57 h2 ?_
    refine gi_icmp_ge d_D_init_58 (tgt := 74) (by decide) (by omega) (fun hb58 => False.elim (by omega)) (fun hb58 => ?_)
    refine lf_aload_n d_D_init_61 rfl rfl rfl ?_
    refine gi_getr s_D_init_62 h1 rfl ?_
    refine lf_iload_n d_D_init_65 rfl rfl ?_
    refine lf_iload_n d_D_init_66 rfl rfl ?_
    refine gi_iastoreN d_D_init_67 h2 (by omega) ?_
    refine gi_iincN d_D_init_68 rfl (by decide +kernel) (L2 := [(3, _), (0, _), (2, _)]) rfl ?_
    refine lf_goto d_D_init_71 (tgt := 52) (by decide) ?_
    refine ih (k + 1) _ (by omega) ⟨fun a ha => by rw [ipt_o ha]; exact he.1 a ha, fun j hj => ?_⟩
    rw [ipt_s]
    by_cases q : j = k
    · rw [if_pos q, q]
    · rw [if_neg q]; exact he.2 j (by omega)
end CO3
