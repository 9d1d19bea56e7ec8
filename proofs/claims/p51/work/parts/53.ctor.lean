section CO1
variable {X : XT} {L9 : Nat} {xs : Nat → Int32} {sh : sM} {I : mI} {J : mJ}

variable {D : mF} {P : Option Value → mF → Prop} {PX : String → mF → Prop} {kc ks : Nat}

theorem gi_newB_int {mi : MI} {pc fr lo : Nat} {L : List (Nat × Value)} {S : List Value} {m B q kc ks : Nat} (d : decode mi.2.1 pc = .ok (.newarray .int, 2)) (ht : Cond.arrayClass .int ∈ TT) (hm : m ≤ B) (hB : B ≤ 67108864) (hq : sh q = none) (k : LXf TT cl6 X mi fr lo D P PX kc ks (pc + 2) L (.ref q :: S) (hp (spt sh q (.inl (.int, m, 0, fun _ => none))) (izr I q) (jzr J q))) : LXf TT cl6 X mi fr lo D P PX (kc + 1) (ks + B) pc L (.int (Int32.ofInt (m : Int)) :: S) (hp sh I J) :=
  lf_room (Nat.le_refl _) (Nat.add_le_add_left hm ks) (gi_new_int d ht (Nat.le_trans hm hB) hq k)
theorem gi_newB_boolean {mi : MI} {pc fr lo : Nat} {L : List (Nat × Value)} {S : List Value} {m B q kc ks : Nat} (d : decode mi.2.1 pc = .ok (.newarray .boolean, 2)) (ht : Cond.arrayClass .boolean ∈ TT) (hm : m ≤ B) (hB : B ≤ 67108864) (hq : sh q = none) (k : LXf TT cl6 X mi fr lo D P PX kc ks (pc + 2) L (.ref q :: S) (hp (spt sh q (.inl (.boolean, m, 0, fun _ => none))) (izr I q) (jzr J q))) : LXf TT cl6 X mi fr lo D P PX (kc + 1) (ks + B) pc L (.int (Int32.ofInt (m : Int)) :: S) (hp sh I J) :=
  lf_room (Nat.le_refl _) (Nat.add_le_add_left hm ks) (gi_new_boolean d ht (Nat.le_trans hm hB) hq k)
theorem gi_newB_char {mi : MI} {pc fr lo : Nat} {L : List (Nat × Value)} {S : List Value} {m B q kc ks : Nat} (d : decode mi.2.1 pc = .ok (.newarray .char, 2)) (ht : Cond.arrayClass .char ∈ TT) (hm : m ≤ B) (hB : B ≤ 67108864) (hq : sh q = none) (k : LXf TT cl6 X mi fr lo D P PX kc ks (pc + 2) L (.ref q :: S) (hp (spt sh q (.inl (.char, m, 0, fun _ => none))) (izr I q) (jzr J q))) : LXf TT cl6 X mi fr lo D P PX (kc + 1) (ks + B) pc L (.int (Int32.ofInt (m : Int)) :: S) (hp sh I J) :=
  lf_room (Nat.le_refl _) (Nat.add_le_add_left hm ks) (gi_new_char d ht (Nat.le_trans hm hB) hq k)
theorem gi_newB_long {mi : MI} {pc fr lo : Nat} {L : List (Nat × Value)} {S : List Value} {m B q kc ks : Nat} (d : decode mi.2.1 pc = .ok (.newarray .long, 2)) (ht : Cond.arrayClass .long ∈ TT) (hm : m ≤ B) (hB : B ≤ 67108864) (hq : sh q = none) (k : LXf TT cl6 X mi fr lo D P PX kc ks (pc + 2) L (.ref q :: S) (hp (spt sh q (.inl (.long, m, 1, fun _ => none))) (izr I q) (jzr J q))) : LXf TT cl6 X mi fr lo D P PX (kc + 1) (ks + B) pc L (.int (Int32.ofInt (m : Int)) :: S) (hp sh I J) :=
  lf_room (Nat.le_refl _) (Nat.add_le_add_left hm ks) (gi_new_long d ht (Nat.le_trans hm hB) hq k)
/-- outside of one index and of a range all is as it was -/
def KEEP (s1 : sM) (I1 : mI) (J1 : mJ) (s : sM) (I : mI) (J : mJ) (c lo hi : Nat) : Prop := ∀ a, ¬ a = c → (a < lo ∨ hi < a) → s1 a = s a ∧ I1 a = I a ∧ J1 a = J a
theorem KEEP_rf {s : sM} {I : mI} {J : mJ} {c lo hi : Nat} : KEEP s I J s I J c lo hi := fun _ _ _ => ⟨rfl, rfl, rfl⟩
theorem KEEP_s {s1 s : sM} {I1 I : mI} {J1 J : mJ} {c lo hi q : Nat} {x : sS} (hq : q = c ∨ (lo ≤ q ∧ q ≤ hi)) (h : KEEP s1 I1 J1 s I J c lo hi) : KEEP (spt s1 q x) I1 J1 s I J c lo hi := fun a h1 h2 => ⟨(spt_o (by omega)).trans (h a h1 h2).1, (h a h1 h2).2⟩
theorem KEEP_i {s1 s : sM} {I1 I : mI} {J1 J : mJ} {c lo hi q k : Nat} {x : Int} (hq : q = c ∨ (lo ≤ q ∧ q ≤ hi)) (h : KEEP s1 I1 J1 s I J c lo hi) : KEEP s1 (ipt I1 q k x) J1 s I J c lo hi := fun a h1 h2 => ⟨(h a h1 h2).1, (ipt_o (by omega)).trans (h a h1 h2).2.1, (h a h1 h2).2.2⟩
theorem KEEP_z {s1 s : sM} {I1 I : mI} {J1 J : mJ} {c lo hi q : Nat} (hq : q = c ∨ (lo ≤ q ∧ q ≤ hi)) (h : KEEP s1 I1 J1 s I J c lo hi) : KEEP s1 (izr I1 q) J1 s I J c lo hi := fun a h1 h2 => ⟨(h a h1 h2).1, (izr_o (by omega)).trans (h a h1 h2).2.1, (h a h1 h2).2.2⟩
theorem KEEP_j {s1 s : sM} {I1 I : mI} {J1 J : mJ} {c lo hi q k : Nat} {x : Int64} (hq : q = c ∨ (lo ≤ q ∧ q ≤ hi)) (h : KEEP s1 I1 J1 s I J c lo hi) : KEEP s1 I1 (jpt J1 q k x) s I J c lo hi := fun a h1 h2 => ⟨(h a h1 h2).1, (h a h1 h2).2.1, (jpt_o (by omega)).trans (h a h1 h2).2.2⟩
theorem KEEP_y {s1 s : sM} {I1 I : mI} {J1 J : mJ} {c lo hi q : Nat} (hq : q = c ∨ (lo ≤ q ∧ q ≤ hi)) (h : KEEP s1 I1 J1 s I J c lo hi) : KEEP s1 I1 (jzr J1 q) s I J c lo hi := fun a h1 h2 => ⟨(h a h1 h2).1, (h a h1 h2).2.1, (jzr_o (by omega)).trans (h a h1 h2).2.2⟩
theorem KEEP_tr {s1 s2 s : sM} {I1 I2 I : mI} {J1 J2 J : mJ} {c lo hi c2 lo2 hi2 : Nat} (h : KEEP s2 I2 J2 s1 I1 J1 c2 lo2 hi2) (g : KEEP s1 I1 J1 s I J c lo hi) (h1 : lo ≤ lo2 ∧ hi2 ≤ hi) (h2 : c2 = c ∨ (lo ≤ c2 ∧ c2 ≤ hi)) : KEEP s2 I2 J2 s I J c lo hi := fun a q1 q2 => by
  have x := h a (by omega) (by omega)
  have y := g a q1 q2
  exact ⟨x.1.trans y.1, x.2.1.trans y.2.1, x.2.2.trans y.2.2⟩
theorem n_init (hx : HX X L9 xs) (h0 : sh 1 = some (.inr (1, [.null, .null, .null, .null, .null, .null, .null, .null, .null, .null, .null, .int 0, .int 0]))) (hf : ∀ a, 3 ≤ a → a ≤ 13 → sh a = none)  : EVa TT cl6 X mi_N_init 0 11 586 [.ref 1] sh I J (fun v s1 I1 J1 => v = none ∧ KEEP s1 I1 J1 sh I J 1 3 13 ∧ clN s1 ∧ (∀ a, 3 ≤ a → a ≤ 13 → I1 a = fun _ => 0) ∧ I1 1 11 = 0 ∧ I1 1 12 = 0) := by
  refine gw_enter (hx_ok hx) (by decide +kernel) (Nat.le_of_ble_eq_true rfl) (L := [(0, _)]) rfl ?_
  refine lf_aload_n d_N_init_0 rfl rfl rfl ?_
  refine gw_obj s_N_init_1 (Nat.le_of_ble_eq_true rfl) ?_
  refine lf_aload_n d_N_init_4 rfl rfl rfl ?_
  refine lf_bipush d_N_init_5 (v := Int32.ofInt ((80 : Nat) : Int)) (by decide +kernel) ?_
  refine gi_newB_char d_N_init_7 tA_char (m := 80) (B := 80) (q := 3) (by omega) (by decide) (hf 3 (by decide) (by decide)) ?_
  refine gi_putr s_N_init_9 h0 rfl rfl rfl rfl ?_
  refine lf_aload_n d_N_init_12 rfl rfl rfl ?_
  refine lf_bipush d_N_init_13 (v := Int32.ofInt ((80 : Nat) : Int)) (by decide +kernel) ?_
  refine gi_newB_int d_N_init_15 tA_int (m := 80) (B := 80) (q := 4) (by omega) (by decide) (hf 4 (by decide) (by decide)) ?_
  refine gi_putr s_N_init_17 rfl rfl rfl rfl rfl ?_
  refine lf_aload_n d_N_init_20 rfl rfl rfl ?_
  refine lf_bipush d_N_init_21 (v := Int32.ofInt ((80 : Nat) : Int)) (by decide +kernel) ?_
  refine gi_newB_int d_N_init_23 tA_int (m := 80) (B := 80) (q := 5) (by omega) (by decide) (hf 5 (by decide) (by decide)) ?_
  refine gi_putr s_N_init_25 rfl rfl rfl rfl rfl ?_
  refine lf_aload_n d_N_init_28 rfl rfl rfl ?_
  refine lf_bipush d_N_init_29 (v := Int32.ofInt ((80 : Nat) : Int)) (by decide +kernel) ?_
  refine gi_newB_int d_N_init_31 tA_int (m := 80) (B := 80) (q := 6) (by omega) (by decide) (hf 6 (by decide) (by decide)) ?_
  refine gi_putr s_N_init_33 rfl rfl rfl rfl rfl ?_
  refine lf_aload_n d_N_init_36 rfl rfl rfl ?_
  refine lf_bipush d_N_init_37 (v := Int32.ofInt ((80 : Nat) : Int)) (by decide +kernel) ?_
  refine gi_newB_int d_N_init_39 tA_int (m := 80) (B := 80) (q := 7) (by omega) (by decide) (hf 7 (by decide) (by decide)) ?_
  refine gi_putr s_N_init_41 rfl rfl rfl rfl rfl ?_
  refine lf_aload_n d_N_init_44 rfl rfl rfl ?_
  refine lf_bipush d_N_init_45 (v := Int32.ofInt ((80 : Nat) : Int)) (by decide +kernel) ?_
  refine gi_newB_int d_N_init_47 tA_int (m := 80) (B := 80) (q := 8) (by omega) (by decide) (hf 8 (by decide) (by decide)) ?_
  refine gi_putr s_N_init_49 rfl rfl rfl rfl rfl ?_
  refine lf_aload_n d_N_init_52 rfl rfl rfl ?_
  refine lf_bipush d_N_init_53 (v := Int32.ofInt ((8 : Nat) : Int)) (by decide +kernel) ?_
  refine gi_newB_int d_N_init_55 tA_int (m := 8) (B := 8) (q := 9) (by omega) (by decide) (hf 9 (by decide) (by decide)) ?_
  refine gi_putr s_N_init_57 rfl rfl rfl rfl rfl ?_
  refine lf_aload_n d_N_init_60 rfl rfl rfl ?_
  refine lf_iconst d_N_init_61 (v := Int32.ofInt ((2 : Nat) : Int)) rfl ?_
  refine gi_newB_int d_N_init_62 tA_int (m := 2) (B := 2) (q := 10) (by omega) (by decide) (hf 10 (by decide) (by decide)) ?_
  refine gi_putr s_N_init_64 rfl rfl rfl rfl rfl ?_
  refine lf_aload_n d_N_init_67 rfl rfl rfl ?_
  refine lf_iconst d_N_init_68 (v := Int32.ofInt ((2 : Nat) : Int)) rfl ?_
  refine gi_newB_int d_N_init_69 tA_int (m := 2) (B := 2) (q := 11) (by omega) (by decide) (hf 11 (by decide) (by decide)) ?_
  refine gi_putr s_N_init_71 rfl rfl rfl rfl rfl ?_
  refine lf_aload_n d_N_init_74 rfl rfl rfl ?_
  refine lf_bipush d_N_init_75 (v := Int32.ofInt ((14 : Nat) : Int)) (by decide +kernel) ?_
  refine gi_newB_int d_N_init_77 tA_int (m := 14) (B := 14) (q := 12) (by omega) (by decide) (hf 12 (by decide) (by decide)) ?_
  refine gi_putr s_N_init_79 rfl rfl rfl rfl rfl ?_
  refine lf_aload_n d_N_init_82 rfl rfl rfl ?_
  refine lf_bipush d_N_init_83 (v := Int32.ofInt ((80 : Nat) : Int)) (by decide +kernel) ?_
  refine gi_newB_int d_N_init_85 tA_int (m := 80) (B := 80) (q := 13) (by omega) (by decide) (hf 13 (by decide) (by decide)) ?_
  refine gi_putr s_N_init_87 rfl rfl rfl rfl rfl ?_
  refine lf_aload_n d_N_init_90 rfl rfl rfl ?_
  refine lf_iconst d_N_init_91 (v := Int32.ofInt ((0 : Nat) : Int)) rfl ?_
  refine gi_puti s_N_init_92 rfl rfl ?_
  refine lf_aload_n d_N_init_95 rfl rfl rfl ?_
  refine lf_iconst d_N_init_96 (v := Int32.ofInt ((0 : Nat) : Int)) rfl ?_
  refine gi_puti s_N_init_97 rfl rfl ?_
  refine gw_ret d_N_init_100 rfl ?_
  exact ⟨rfl, (by repeat (first | exact KEEP_rf | refine KEEP_s (by omega) ?_ | refine KEEP_i (by omega) ?_ | refine KEEP_z (by omega) ?_ | refine KEEP_j (by omega) ?_ | refine KEEP_y (by omega) ?_)), ⟨rfl, rfl, rfl, rfl, rfl, rfl, rfl, rfl, rfl, rfl, rfl, rfl⟩, (fun a h1 h2 => by
      have h9 : a = 3 ∨ a = 4 ∨ a = 5 ∨ a = 6 ∨ a = 7 ∨ a = 8 ∨ a = 9 ∨ a = 10 ∨ a = 11 ∨ a = 12 ∨ a = 13 := by omega
      rcases h9 with rfl | rfl | rfl | rfl | rfl | rfl | rfl | rfl | rfl | rfl | rfl <;> rfl), rfl, rfl⟩
end CO1
