section LA1
variable {X : XT} {L9 : Nat} {xs : Nat → Int32} {sh : sM} {I : mI} {J : mJ}

variable {D : mF} {P : Option Value → mF → Prop} {PX : String → mF → Prop} {kc ks : Nat}

theorem law_a (hx : HX X L9 xs) (h0 : ∀ a, sh a = none) (k150 : ∀ (s1 : sM) (I1 : mI) (J1 : mJ), clM s1 .null → clN s1 → (∀ a, 14 ≤ a → s1 a = none) → ((∀ a, 3 ≤ a → a ≤ 13 → I1 a = fun _ => 0) ∧ I1 1 11 = 0 ∧ I1 1 12 = 0) → LXf TT cl6 X mi_W_law (40 + 11) (1000 + 200 * 11) D P PX kc ks 150 [(1, .ref 0), (0, .retAddr 1)] [.int (Int32.ofInt ((1 : Nat) : Int))] (hp s1 I1 J1)) : LXf TT cl6 X mi_W_law (40 + 11) (1000 + 200 * 11) D P PX (kc + 26) (ks + 706) 0 [(0, .retAddr 1)] [] (hp sh I J) := by
  refine gi_new (kc := kc + 25) (ks := ks + 703) s_W_law_0 cD_0 cZ_0 (q := 0) (h0 0) ?_
  refine lf_dup d_W_law_3 rfl ?_
  refine gw_callA s_W_law_4 (m_init hx (show spt sh 0 _ 0 = _ from spt_s) (fun a h1 h2 => (spt_o (by omega)).trans (h0 a))) (S := [_]) rfl (show 13 + (kc + 12) = kc + 25 by omega) (show 631 + (ks + 72) = ks + 703 by omega) rfl gcR_3 (by decide) (by decide +kernel) (Nat.le_of_ble_eq_true rfl) (fun v s1 I1 J1 w4 _ => ?_)
  obtain ⟨rfl, hkp, hM, hN, hz⟩ := w4
  have hzr : ∀ a, 3 ≤ a → a ≤ 13 → ∀ j, I1 a j = 0 := fun a h1 h2 j => congrFun (hz.1 a h1 h2) j
  have h11 : I1 1 11 = ((0 : Nat) : Int) := hz.2.1
  have nr : NR I1 := ⟨fun j => by have := hzr 3 (by decide) (by decide) j; omega, fun j => by have := hzr 4 (by decide) (by decide) j; omega⟩
  have h59 : ∀ j, -2147483648 ≤ I1 5 j ∧ I1 5 j < 2147483648 := fun j => by have := hzr 5 (by decide) (by decide) j; omega
  have hO : ∀ j, 0 ≤ I1 10 j ∧ I1 10 j ≤ 4 := fun j => by have := hzr 10 (by decide) (by decide) j; omega
  have hfr : ∀ a, 14 ≤ a → s1 a = none := fun a ha => (hkp a (by omega) (by omega)).1.trans ((spt_o (by omega)).trans (h0 a))
  refine lf_astore_n d_W_law_7 rfl (by decide +kernel) rfl (L2 := [(1, _), (0, _)]) rfl ?_
  refine lf_aload_n d_W_law_8 rfl rfl rfl ?_
  refine gw_callX s_W_law_9 (w_close_2 hx hM (EVt_x (m_close_t2 hx hN hM nr h59 hO (n := 0) h11 (by omega) (Or.inr (by have := hzr 10 (by decide) (by decide) 0; omega)))) (lev := 10) (by decide)) (S := []) rfl rfl gcR_1 (by decide) (by decide +kernel) (Nat.le_of_ble_eq_true rfl) (fun I9 J9 w9 => ?_)
  obtain ⟨hi9, hj9⟩ := w9
  rw [hi9, hj9]
  clear hi9 hj9
  refine gi_pushi s_W_law_12 ?_
  refine gi_icmp_ne d_W_law_14 (tgt := 149) (by decide) (by omega) (fun hb14 => False.elim (by omega)) (fun hb14 => ?_)
  refine lf_aload_n d_W_law_17 rfl rfl rfl ?_
  refine lf_iconst d_W_law_18 (v := Int32.ofInt ((2 : Nat) : Int)) rfl ?_
  refine lf_iconst d_W_law_19 (v := Int32.ofInt ((0 : Nat) : Int)) rfl ?_
  refine lf_iconst d_W_law_20 (v := Int32.ofInt ((0 : Nat) : Int)) rfl ?_
  refine gw_callX s_W_law_21 (w_cell_0 hx hM (EVt_x (m_cell_t hx (z := ((2 : Nat) : Int)) rfl)) (lev := 10) (by decide)) (S := []) rfl rfl gcR_1 (by decide) (by decide +kernel) (Nat.le_of_ble_eq_true rfl) (fun I21 J21 w21 => ?_)
  obtain ⟨hi9, hj9⟩ := w21
  rw [hi9, hj9]
  clear hi9 hj9
  refine gi_pushi s_W_law_24 ?_
  refine gi_icmp_ne d_W_law_26 (tgt := 149) (by decide) (by omega) (fun hb26 => False.elim (by omega)) (fun hb26 => ?_)
  refine lf_aload_n d_W_law_29 rfl rfl rfl ?_
  refine lf_iconst d_W_law_30 (v := Int32.ofInt ((0 : Nat) : Int)) rfl ?_
  refine lf_bipush d_W_law_31 (v := Int32.ofInt ((121 : Nat) : Int)) (by decide +kernel) ?_
  refine lf_iconst d_W_law_33 (v := Int32.ofInt ((0 : Nat) : Int)) rfl ?_
  refine lf_iconst d_W_law_34 (v := Int32.ofInt ((0 : Nat) : Int)) rfl ?_
  refine gw_callX s_W_law_35 (w_gate_0 hx hM (EVt_x (m_gate_t1 hx (t := 0) (kd := ((121 : Nat) : Int)) (by decide) rfl)) (lev := 10) (by decide)) (S := []) rfl rfl gcR_1 (by decide) (by decide +kernel) (Nat.le_of_ble_eq_true rfl) (fun I35 J35 w35 => ?_)
  obtain ⟨hi9, hj9⟩ := w35
  rw [hi9, hj9]
  clear hi9 hj9
  refine gi_pushi s_W_law_38 ?_
  refine gi_icmp_ne d_W_law_40 (tgt := 149) (by decide) (by omega) (fun hb40 => False.elim (by omega)) (fun hb40 => ?_)
  refine lf_aload_n d_W_law_43 rfl rfl rfl ?_
  refine lf_iconst d_W_law_44 (v := Int32.ofInt ((0 : Nat) : Int)) rfl ?_
  refine lf_bipush d_W_law_45 (v := Int32.ofInt ((97 : Nat) : Int)) (by decide +kernel) ?_
  refine lf_iconst d_W_law_47 (v := Int32.ofInt ((0 : Nat) : Int)) rfl ?_
  refine lf_iconst d_W_law_48 (v := Int32.ofInt ((0 : Nat) : Int)) rfl ?_
  refine gw_callX s_W_law_49 (w_gate_1 hx hM (EVt_x (m_gate_t2 hx hN hM h11 (t := 0) (kd := ((97 : Nat) : Int)) (by decide) rfl)) (lev := 10) (by decide)) (S := []) rfl rfl gcR_1 (by decide) (by decide +kernel) (Nat.le_of_ble_eq_true rfl) (fun I49 J49 w49 => ?_)
  obtain ⟨hi9, hj9⟩ := w49
  rw [hi9, hj9]
  clear hi9 hj9
  refine gi_pushi s_W_law_52 ?_
  refine gi_icmp_ne d_W_law_54 (tgt := 149) (by decide) (by omega) (fun hb54 => False.elim (by omega)) (fun hb54 => ?_)
  refine lf_aload_n d_W_law_57 rfl rfl rfl ?_
  refine lf_iconst d_W_law_58 (v := Int32.ofInt ((2 : Nat) : Int)) rfl ?_
  refine lf_iconst d_W_law_59 (v := Int32.ofInt ((0 : Nat) : Int)) rfl ?_
  refine gw_callX s_W_law_60 (w_output_0 hx hM (EVt_x (m_output_t1 hx (z := ((2 : Nat) : Int)) rfl)) (lev := 10) (by decide)) (S := []) rfl rfl gcR_1 (by decide) (by decide +kernel) (Nat.le_of_ble_eq_true rfl) (fun I60 J60 w60 => ?_)
  obtain ⟨hi9, hj9⟩ := w60
  rw [hi9, hj9]
  clear hi9 hj9
  refine gi_pushi s_W_law_63 ?_
  refine gi_icmp_ne d_W_law_65 (tgt := 149) (by decide) (by omega) (fun hb65 => False.elim (by omega)) (fun hb65 => ?_)
  refine lf_aload_n d_W_law_68 rfl rfl rfl ?_
  refine lf_iconst d_W_law_69 (v := Int32.ofInt ((0 : Nat) : Int)) rfl ?_
  refine lf_iconst d_W_law_70 (v := Int32.ofInt ((0 : Nat) : Int)) rfl ?_
  refine gw_callX s_W_law_71 (w_output_1 hx hM (EVt_x (m_output_t2 hx hN hM h11 (t := 0) (by decide))) (lev := 10) (by decide)) (S := []) rfl rfl gcR_1 (by decide) (by decide +kernel) (Nat.le_of_ble_eq_true rfl) (fun I71 J71 w71 => ?_)
  obtain ⟨hi9, hj9⟩ := w71
  rw [hi9, hj9]
  clear hi9 hj9
  refine gi_pushi s_W_law_74 ?_
  refine gi_icmp_ne d_W_law_76 (tgt := 149) (by decide) (by omega) (fun hb76 => False.elim (by omega)) (fun hb76 => ?_)
  refine lf_aload_n d_W_law_79 rfl rfl rfl ?_
  refine lf_iconst d_W_law_80 (v := Int32.ofInt ((0 : Nat) : Int)) rfl ?_
  refine lf_iconst d_W_law_81 (v := Int32.ofInt ((0 : Nat) : Int)) rfl ?_
  refine gw_callX s_W_law_82 (w_data_1 hx hM (EVt_x (m_data_t hx hN hM h11)) (lev := 10) (by decide)) (S := []) rfl rfl gcR_1 (by decide) (by decide +kernel) (Nat.le_of_ble_eq_true rfl) (fun I82 J82 w82 => ?_)
  obtain ⟨hi9, hj9⟩ := w82
  rw [hi9, hj9]
  clear hi9 hj9
  refine gi_pushi s_W_law_85 ?_
  refine gi_icmp_ne d_W_law_87 (tgt := 149) (by decide) (by omega) (fun hb87 => False.elim (by omega)) (fun hb87 => ?_)
  refine lf_aload_n d_W_law_90 rfl rfl rfl ?_
  refine lf_iconst d_W_law_91 (v := Int32.ofInt ((0 : Nat) : Int)) rfl ?_
  refine gw_callX s_W_law_92 (w_literal_1 hx hM (EVt_x (m_literal_t hx hN hM h11)) (lev := 10) (by decide)) (S := []) rfl rfl gcR_1 (by decide) (by decide +kernel) (Nat.le_of_ble_eq_true rfl) (fun I92 J92 w92 => ?_)
  obtain ⟨hi9, hj9⟩ := w92
  rw [hi9, hj9]
  clear hi9 hj9
  refine gi_pushi s_W_law_95 ?_
  refine gi_icmp_ne d_W_law_97 (tgt := 149) (by decide) (by omega) (fun hb97 => False.elim (by omega)) (fun hb97 => ?_)
  refine lf_aload_n d_W_law_100 rfl rfl rfl ?_
  refine gw_callX s_W_law_101 (w_ands_2 hx hM (EVt_x (m_ands_t hx hM)) (lev := 10) (by decide)) (S := []) rfl rfl gcR_1 (by decide) (by decide +kernel) (Nat.le_of_ble_eq_true rfl) (fun I101 J101 w101 => ?_)
  obtain ⟨hi9, hj9⟩ := w101
  rw [hi9, hj9]
  clear hi9 hj9
  refine gi_pushi s_W_law_104 ?_
  refine gi_icmp_ne d_W_law_106 (tgt := 149) (by decide) (by omega) (fun hb106 => False.elim (by omega)) (fun hb106 => ?_)
  refine lf_aload_n d_W_law_109 rfl rfl rfl ?_
  refine lf_iconst d_W_law_110 (v := Int32.ofInt ((0 : Nat) : Int)) rfl ?_
  refine gw_callX s_W_law_111 (w_sweep_0 hx hM (EVt_x (m_sweep_t1 hx (z := ((0 : Nat) : Int)) rfl)) (lev := 10) (by decide)) (S := []) rfl rfl gcR_1 (by decide) (by decide +kernel) (Nat.le_of_ble_eq_true rfl) (fun I111 J111 w111 => ?_)
  obtain ⟨hi9, hj9⟩ := w111
  rw [hi9, hj9]
  clear hi9 hj9
  refine gi_pushi s_W_law_114 ?_
  refine gi_icmp_ne d_W_law_116 (tgt := 149) (by decide) (by omega) (fun hb116 => False.elim (by omega)) (fun hb116 => ?_)
  refine lf_aload_n d_W_law_119 rfl rfl rfl ?_
  refine lf_iconst d_W_law_120 (v := Int32.ofInt ((1 : Nat) : Int)) rfl ?_
  refine gw_callX s_W_law_121 (w_sweep_2 hx hM (EVt_x (m_sweep_t2 hx hM (z := ((1 : Nat) : Int)) rfl)) (lev := 10) (by decide)) (S := []) rfl rfl gcR_1 (by decide) (by decide +kernel) (Nat.le_of_ble_eq_true rfl) (fun I121 J121 w121 => ?_)
  obtain ⟨hi9, hj9⟩ := w121
  rw [hi9, hj9]
  clear hi9 hj9
  refine gi_pushi s_W_law_124 ?_
  refine gi_icmp_ne d_W_law_126 (tgt := 149) (by decide) (by omega) (fun hb126 => False.elim (by omega)) (fun hb126 => ?_)
  refine lf_aload_n d_W_law_129 rfl rfl rfl ?_
  refine gw_callX s_W_law_130 (w_reached_2 hx hM (EVt_x (m_reached_t hx hM)) (lev := 10) (by decide)) (S := []) rfl rfl gcR_1 (by decide) (by decide +kernel) (Nat.le_of_ble_eq_true rfl) (fun I130 J130 w130 => ?_)
  obtain ⟨hi9, hj9⟩ := w130
  rw [hi9, hj9]
  clear hi9 hj9
  refine gi_pushi s_W_law_133 ?_
  refine gi_icmp_ne d_W_law_135 (tgt := 149) (by decide) (by omega) (fun hb135 => False.elim (by omega)) (fun hb135 => ?_)
  refine lf_aload_n d_W_law_138 rfl rfl rfl ?_
  refine gw_callP s_W_law_139 (m_lines hx hN hM) (S := []) rfl rfl (gcR_2 (c_0 hM)) (by decide) (by decide +kernel) (Nat.le_of_ble_eq_true rfl) ?_
  refine gi_top h11 ?_
  refine gi_if_ne d_W_law_142 (tgt := 149) (by decide) (by omega) (fun hb142 => False.elim (by omega)) (fun hb142 => ?_)
  refine lf_iconst d_W_law_145 (v := Int32.ofInt ((1 : Nat) : Int)) rfl ?_
  refine lf_goto d_W_law_146 (tgt := 150) (by decide) ?_
  exact k150 s1 I1 J1 hM hN hfr hz
/-- what stands once the nets are built -/
def LAWq (sh : sM) (I : mI) (J : mJ) (N ni c s no w : Nat) (kd : Nat → Int) (ow r2 r3 dt : Nat → Nat) (ot : Nat → Nat → Nat) : Prop :=
  RKq N ni s kd ow r2 r3 ∧ RW sh I N kd ow r2 r3 ∧ SHC sh N s ni w ∧ CLB I J N s ni no w (I 3) r2 (pbF kd r2 r3) r2 dt ot ∧ (∀ j, j < N → I 3 j = kd j) ∧ sh 124 = some (.inl (.int, N, 0, fun _ => none)) ∧
  (∃ f5 : Nat → Option Nat, sh 125 = some (.inl (.array .int, 2, 2, f5)) ∧ ∀ t, t < 2 → f5 t = some (126 + t)) ∧ (∀ t, t < 2 → sh (126 + t) = some (.inl (.int, no, 0, fun _ => none))) ∧
  (∀ j, ni ≤ j → j < s → I 124 j = dt j ∧ dt j < N) ∧ (∀ t j, t < 2 → j < no → I (126 + t) j = ot t j ∧ ot t j < N) ∧ (1 ≤ ni ∧ ni ≤ 3 ∧ 1 ≤ no ∧ no ≤ 2 ∧ s = ni + 2 * c ∧ c < 3) ∧ ((s ≤ 6 ∧ w = 1) ∨ (s = 7 ∧ w = 2))
theorem LAW_K {sh1 : sM} {I1 : mI} {J1 : mJ} {N ni c s no w : Nat} {kd : Nat → Int} {ow r2 r3 dt : Nat → Nat} {ot : Nat → Nat → Nat} (hs : ∀ a, a ≤ 127 → sh1 a = sh a) (hf : FR9 I1 I J1 J) (hI : ∀ a, 100 ≤ a → a ≤ 127 → I1 a = I a) (h : LAWq sh I J N ni c s no w kd ow r2 r3 dt ot) : LAWq sh1 I1 J1 N ni c s no w kd ow r2 r3 dt ot := by
  obtain ⟨h1, h2, h3, h4, h5, h6, h7, h8, h9, h10, h11, h12⟩ := h
  have hN23 : N ≤ 23 := h1.2.2.2.2.2.2.1
  have e3 : I1 3 = I 3 := funext fun q => hf.1 3 q (by decide) (by decide) (by omega) (by decide) (by omega)
  refine ⟨h1, ?_, ?_, ?_, ?_, ?_, ?_, ?_, ?_, ?_, h11, h12⟩
  · obtain ⟨⟨f, g1, g2⟩, g3, g4⟩ := h2
    exact ⟨⟨f, (hs 100 (by decide)).trans g1, g2⟩, fun j hj => (hs _ (by omega)).trans (g3 j hj), fun j hj => by rw [hI (101 + j) (by omega) (by omega)]; exact g4 j hj⟩
  · unfold SHC clM clN clH clV clA clS clT at *
    rw [hs 0 (by decide), hs 1 (by decide), hs 2 (by decide), hs 3 (by decide), hs 4 (by decide), hs 5 (by decide), hs 6 (by decide), hs 7 (by decide), hs 8 (by decide), hs 9 (by decide), hs 10 (by decide), hs 11 (by decide), hs 12 (by decide), hs 13 (by decide), hs 14 (by decide), hs 15 (by decide), hs 16 (by decide), hs 17 (by decide), hs 24 (by decide), hs 25 (by decide), hs 26 (by decide), hs 27 (by decide), hs 28 (by decide), hs 29 (by decide), hs 30 (by decide), hs 31 (by decide), hs 32 (by decide), hs 33 (by decide), hs 34 (by decide), hs 35 (by decide), hs 36 (by decide), hs 37 (by decide), hs 38 (by decide), hs 39 (by decide), hs 40 (by decide), hs 41 (by decide), hs 42 (by decide), hs 43 (by decide)]
    exact h3
  · rw [e3]
    exact CLB_K hf h4
  · intro j hj
    rw [e3]
    exact h5 j hj
  · exact (hs 124 (by decide)).trans h6
  · obtain ⟨f5, g1, g2⟩ := h7
    exact ⟨f5, (hs 125 (by decide)).trans g1, g2⟩
  · intro t ht
    exact (hs _ (by omega)).trans (h8 t ht)
  · intro j a b
    rw [hI 124 (by decide) (by decide)]
    exact h9 j a b
  · intro t j ht hj
    rw [hI (126 + t) (by omega) (by omega)]
    exact h10 t j ht hj
theorem law_b (hx : HX X L9 xs) (hxc : HXC X) (hM : clM sh .null) (hN : clN sh) (hfr : ∀ a, 14 ≤ a → sh a = none) (hz : (∀ a, 3 ≤ a → a ≤ 13 → I a = fun _ => 0) ∧ I 1 11 = 0 ∧ I 1 12 = 0) (k231 : ∀ (s1 : sM) (I1 : mI) (J1 : mJ) (N ni c s no w : Nat) (kd : Nat → Int) (ow r2 r3 dt : Nat → Nat) (ot : Nat → Nat → Nat), LAWq s1 I1 J1 N ni c s no w kd ow r2 r3 dt ot → (∀ j, 0 ≤ I1 13 j ∧ I1 13 j ≤ 1) → (I1 15 9 = 0 ∧ J1 15 11 = Int64.ofInt (-1) ∧ (∀ u, u < w → J1 29 u = evr s) ∧ (∀ q, J1 30 q = 0)) → (I1 17 4 = 0 ∧ I1 24 12 = 0 ∧ I1 24 13 = -1) → (∀ a, 128 ≤ a → s1 a = none) → LXf TT cl6 X mi_W_law (40 + 11) (1000 + 200 * 11) D P PX kc ks 231 [(1, .ref 0), (0, .retAddr 1), (2, .int (Int32.ofInt ((1 : Nat) : Int))), (3, .int (Int32.ofInt ((ni : Nat) : Int))), (4, .int (Int32.ofInt ((c : Nat) : Int))), (5, .ref 100), (6, .int (Int32.ofInt ((s : Nat) : Int))), (7, .ref 124), (8, .ref 125)] [] (hp s1 I1 J1)) : LXf TT cl6 X mi_W_law (40 + 11) (1000 + 200 * 11) D P PX (kc + 200) (ks + 7000) 150 [(1, .ref 0), (0, .retAddr 1)] [.int (Int32.ofInt ((1 : Nat) : Int))] (hp sh I J) := by
  refine lf_istore_n d_W_law_150 rfl (by decide +kernel) (L2 := [(2, _), (1, _), (0, _)]) rfl ?_
  refine lf_iconst d_W_law_151 (v := Int32.ofInt ((1 : Nat) : Int)) rfl ?_
  refine lf_aload_n d_W_law_152 rfl rfl rfl ?_
  refine lf_iconst d_W_law_153 (v := Int32.ofInt ((0 : Nat) : Int)) rfl ?_
  refine lf_iconst d_W_law_154 (v := Int32.ofInt ((3 : Nat) : Int)) rfl ?_
  refine gw_callI s_W_law_155 (w_in hx (i := 0) (n := 3) (by omega) (by omega) (by omega)) (S := [_]) rfl rfl gcR_1 (by decide) (by decide +kernel) (Nat.le_of_ble_eq_true rfl) (fun r155 I155 J155 w155 => ?_)
  obtain ⟨⟨k0, hk0, rfl⟩, hi9, hj9⟩ := w155
  rw [hi9, hj9]
  clear hi9 hj9
  obtain ⟨ni, hni⟩ : ∃ ni : Nat, ni = 1 + k0 := ⟨_, rfl⟩
  refine gi_iaddN (a := 1) (b := k0) d_W_law_158 ?_
  refine gi_top (show ((1 + k0 : Nat) : Int) = ((ni : Nat) : Int) from by omega) ?_
  refine lf_istore_n d_W_law_159 rfl (by decide +kernel) (L2 := [(3, _), (2, _), (1, _), (0, _)]) rfl ?_
  refine lf_aload_n d_W_law_160 rfl rfl rfl ?_
  refine lf_iconst d_W_law_161 (v := Int32.ofInt ((1 : Nat) : Int)) rfl ?_
  refine lf_iconst d_W_law_162 (v := Int32.ofInt ((3 : Nat) : Int)) rfl ?_
  refine gw_callI s_W_law_163 (w_in hx (i := 1) (n := 3) (by omega) (by omega) (by omega)) (S := []) rfl rfl gcR_1 (by decide) (by decide +kernel) (Nat.le_of_ble_eq_true rfl) (fun r163 I163 J163 w163 => ?_)
  obtain ⟨⟨c, hc, rfl⟩, hi9, hj9⟩ := w163
  rw [hi9, hj9]
  clear hi9 hj9
  refine lf_istore d_W_law_166 (by decide +kernel) (L2 := [(4, _), (3, _), (2, _), (1, _), (0, _)]) rfl ?_
  refine lf_aload_n d_W_law_168 rfl rfl rfl ?_
  refine lf_iload_n d_W_law_169 rfl rfl ?_
  refine lf_iload d_W_law_170 rfl ?_
  refine lf_bipush d_W_law_172 (v := Int32.ofInt ((8 : Nat) : Int)) (by decide +kernel) ?_
  refine lf_aload_n d_W_law_174 rfl rfl rfl ?_
  refine lf_iconst d_W_law_175 (v := Int32.ofInt ((2 : Nat) : Int)) rfl ?_
  refine lf_bipush d_W_law_176 (v := Int32.ofInt ((9 : Nat) : Int)) (by decide +kernel) ?_
  refine gw_callI s_W_law_178 (w_in hx (i := 2) (n := 9) (by omega) (by omega) (by omega)) (S := [_, _, _, _]) rfl rfl gcR_1 (by decide) (by decide +kernel) (Nat.le_of_ble_eq_true rfl) (fun r178 I178 J178 w178 => ?_)
  obtain ⟨⟨g0, hg0, rfl⟩, hi9, hj9⟩ := w178
  rw [hi9, hj9]
  clear hi9 hj9
  obtain ⟨g, hg⟩ : ∃ g : Nat, g = 8 + g0 := ⟨_, rfl⟩
  obtain ⟨N, hN9⟩ : ∃ N : Nat, N = ni + 2 * c + g := ⟨_, rfl⟩
  refine gi_iaddN (a := 8) (b := g0) d_W_law_181 ?_
  refine gi_top (show ((8 + g0 : Nat) : Int) = ((g : Nat) : Int) from by omega) ?_
  refine lf_room (kc1 := (N + 1) + (kc + 100)) (ks1 := (4 * N + N) + (ks + 6000)) (by omega) (by omega) ?_
  refine gw_callA s_W_law_182 (w_netsBy hx hxc (N := N) (ni := ni) (c := c) (g := g) (by omega) (by omega) (by omega) (fun a h1 h2 => hfr a (by omega))) (S := []) rfl rfl rfl rfl gcR_1 (by decide) (by decide +kernel) (Nat.le_of_ble_eq_true rfl) (fun v s1 I1 J1 w182 _ => ?_)
  obtain ⟨rfl, hnb⟩ := w182
  obtain ⟨kd, ow, r2, r3, hrw, hrk⟩ := RW_of (by omega) hnb
  have hnw := hnb.2.2.2.2
  obtain ⟨⟨f, hs0, hf⟩, hr, hR⟩ := id hrw
  obtain ⟨s, hs⟩ : ∃ s : Nat, s = ni + 2 * c := ⟨_, rfl⟩
  rw [← hs] at hrk
  have hM1 : clM s1 .null := ⟨(hnw 0 (by omega)).1.trans hM.1, (hnw 2 (by omega)).1.trans hM.2⟩
  have hN1 : clN s1 := by
    unfold clN at *
    rw [(hnw 1 (by omega)).1, (hnw 3 (by omega)).1, (hnw 4 (by omega)).1, (hnw 5 (by omega)).1, (hnw 6 (by omega)).1, (hnw 7 (by omega)).1, (hnw 8 (by omega)).1, (hnw 9 (by omega)).1, (hnw 10 (by omega)).1, (hnw 11 (by omega)).1, (hnw 12 (by omega)).1, (hnw 13 (by omega)).1]
    exact hN
  have hfr1 : ∀ a, 124 ≤ a ∨ (14 ≤ a ∧ a ≤ 80) → s1 a = none := fun a ha => (hnw a (by omega)).1.trans (hfr a (by omega))
  have hz1 : (∀ a, 3 ≤ a → a ≤ 13 → I1 a = fun _ => 0) ∧ I1 1 11 = 0 ∧ I1 1 12 = 0 := ⟨fun a h1 h2 => (hnw a (by omega)).2.1.trans (hz.1 a h1 h2), (congrFun (hnw 1 (by omega)).2.1 11).trans hz.2.1, (congrFun (hnw 1 (by omega)).2.1 12).trans hz.2.2⟩
  refine lf_astore d_W_law_185 (by decide +kernel) rfl (L2 := [(5, _), (4, _), (3, _), (2, _), (1, _), (0, _)]) rfl ?_
  refine lf_iload_n d_W_law_187 rfl rfl ?_
  refine lf_iconst d_W_law_188 (v := Int32.ofInt ((2 : Nat) : Int)) rfl ?_
  refine lf_iload d_W_law_189 rfl ?_
  refine gi_imulN (a := 2) (b := c) d_W_law_191 ?_
  refine gi_iaddN (a := ni) (b := (2 * c)) d_W_law_192 ?_
  refine gi_top (show ((ni + 2 * c : Nat) : Int) = ((s : Nat) : Int) from by omega) ?_
  refine lf_istore d_W_law_193 (by decide +kernel) (L2 := [(6, _), (5, _), (4, _), (3, _), (2, _), (1, _), (0, _)]) rfl ?_
  refine lf_aload d_W_law_195 rfl rfl ?_
  refine gi_len d_W_law_197 hs0 ?_
  refine lf_room (kc1 := (kc + 99) + 1) (ks1 := (ks + 5900) + 23) (by omega) (by omega) ?_
  refine gi_newB_int d_W_law_198 tA_int (m := N) (B := 23) (q := 124) (by omega) (by decide) (hfr1 124 (by decide)) ?_
  refine lf_astore d_W_law_200 (by decide +kernel) rfl (L2 := [(7, _), (6, _), (5, _), (4, _), (3, _), (2, _), (1, _), (0, _)]) rfl ?_
  refine lf_iconst d_W_law_202 (v := Int32.ofInt ((2 : Nat) : Int)) rfl ?_
  refine lf_iconst d_W_law_203 (v := Int32.ofInt ((1 : Nat) : Int)) rfl ?_
  refine lf_aload_n d_W_law_204 rfl rfl rfl ?_
  refine lf_iconst d_W_law_205 (v := Int32.ofInt ((3 : Nat) : Int)) rfl ?_
  refine lf_iconst d_W_law_206 (v := Int32.ofInt ((2 : Nat) : Int)) rfl ?_
  refine gw_callI s_W_law_207 (w_in hx (i := 3) (n := 2) (by omega) (by omega) (by omega)) (S := [_, _]) rfl rfl gcR_1 (by decide) (by decide +kernel) (Nat.le_of_ble_eq_true rfl) (fun r207 I207 J207 w207 => ?_)
  obtain ⟨⟨e0, he0, rfl⟩, hi9, hj9⟩ := w207
  rw [hi9, hj9]
  clear hi9 hj9
  obtain ⟨no, hno⟩ : ∃ no : Nat, no = 1 + e0 := ⟨_, rfl⟩
  refine gi_iaddN (a := 1) (b := e0) d_W_law_210 ?_
  refine gi_top (show ((1 + e0 : Nat) : Int) = ((no : Nat) : Int) from by omega) ?_
  refine lf_room (kc1 := (kc + (N + 69)) + 3) (ks1 := (ks + (6 * N + 5550)) + 6) (by omega) (by omega) ?_
  refine gi_multi (kc := kc + (N + 69)) (ks := ks + (6 * N + 5550)) (m := no) (q0 := 125) (q1 := 126) (q2 := 127) d_W_law_211 rfl (by omega) ((spt_o (by decide)).trans (hfr1 125 (by decide))) ((spt_o (by decide)).trans (hfr1 126 (by decide))) ((spt_o (by decide)).trans (hfr1 127 (by decide))) (by decide) ?_
  refine lf_astore d_W_law_215 (by decide +kernel) rfl (L2 := [(8, _), (7, _), (6, _), (5, _), (4, _), (3, _), (2, _), (1, _), (0, _)]) rfl ?_
  refine lf_iload_n d_W_law_217 rfl rfl ?_
  refine lf_aload_n d_W_law_218 rfl rfl rfl ?_
  refine lf_aload_n d_W_law_219 rfl rfl rfl ?_
  refine lf_aload d_W_law_220 rfl rfl ?_
  refine lf_aload d_W_law_222 rfl rfl ?_
  refine lf_aload d_W_law_224 rfl rfl ?_
  have o4 : ∀ a, a < 124 → (spt (spt (spt (spt (spt s1 124 (.inl (.int, N, 0, fun _ => none))) 125 (.inl (.array .int, 2, 2, fun _ => none))) 126 (.inl (.int, no, 0, fun _ => none))) 127 (.inl (.int, no, 0, fun _ => none))) 125 (.inl (.array .int, 2, 2, va_up (va_up (fun _ => none) 0 (some 126)) 1 (some 127)))) a = s1 a := fun a ha => by
    rw [spt_o (by omega), spt_o (by omega), spt_o (by omega), spt_o (by omega), spt_o (by omega)]
  have oI : ∀ a, a < 124 → (izr (izr (izr (izr I1 124) 125) 126) 127) a = I1 a := fun a ha => by
    rw [izr_o (by omega), izr_o (by omega), izr_o (by omega), izr_o (by omega)]
  have hM4 : clM (spt (spt (spt (spt (spt s1 124 (.inl (.int, N, 0, fun _ => none))) 125 (.inl (.array .int, 2, 2, fun _ => none))) 126 (.inl (.int, no, 0, fun _ => none))) 127 (.inl (.int, no, 0, fun _ => none))) 125 (.inl (.array .int, 2, 2, va_up (va_up (fun _ => none) 0 (some 126)) 1 (some 127)))) .null := ⟨(o4 0 (by decide)).trans hM1.1, (o4 2 (by decide)).trans hM1.2⟩
  have hN4 : clN (spt (spt (spt (spt (spt s1 124 (.inl (.int, N, 0, fun _ => none))) 125 (.inl (.array .int, 2, 2, fun _ => none))) 126 (.inl (.int, no, 0, fun _ => none))) 127 (.inl (.int, no, 0, fun _ => none))) 125 (.inl (.array .int, 2, 2, va_up (va_up (fun _ => none) 0 (some 126)) 1 (some 127)))) := by
    unfold clN at *
    rw [o4 1 (by decide), o4 3 (by decide), o4 4 (by decide), o4 5 (by decide), o4 6 (by decide), o4 7 (by decide), o4 8 (by decide), o4 9 (by decide), o4 10 (by decide), o4 11 (by decide), o4 12 (by decide), o4 13 (by decide)]
    exact hN1
  have h124 : (spt (spt (spt (spt (spt s1 124 (.inl (.int, N, 0, fun _ => none))) 125 (.inl (.array .int, 2, 2, fun _ => none))) 126 (.inl (.int, no, 0, fun _ => none))) 127 (.inl (.int, no, 0, fun _ => none))) 125 (.inl (.array .int, 2, 2, va_up (va_up (fun _ => none) 0 (some 126)) 1 (some 127)))) 124 = some (.inl (.int, N, 0, fun _ => none)) := by
    rw [spt_o (by decide), spt_o (by decide), spt_o (by decide), spt_o (by decide), spt_s]
  have h125 : (spt (spt (spt (spt (spt s1 124 (.inl (.int, N, 0, fun _ => none))) 125 (.inl (.array .int, 2, 2, fun _ => none))) 126 (.inl (.int, no, 0, fun _ => none))) 127 (.inl (.int, no, 0, fun _ => none))) 125 (.inl (.array .int, 2, 2, va_up (va_up (fun _ => none) 0 (some 126)) 1 (some 127)))) 125 = some (.inl (.array .int, 2, 2, va_up (va_up (fun _ => none) 0 (some 126)) 1 (some 127))) := by
    exact spt_s
  have hf5 : ∀ t, t < 2 → (va_up (va_up (fun _ => none) 0 (some 126)) 1 (some 127)) t = some (126 + t) := fun t ht => by
    rcases (show t = 0 ∨ t = 1 by omega) with rfl | rfl
    · rfl
    · rfl
  have h126 : ∀ t, t < 2 → (spt (spt (spt (spt (spt s1 124 (.inl (.int, N, 0, fun _ => none))) 125 (.inl (.array .int, 2, 2, fun _ => none))) 126 (.inl (.int, no, 0, fun _ => none))) 127 (.inl (.int, no, 0, fun _ => none))) 125 (.inl (.array .int, 2, 2, va_up (va_up (fun _ => none) 0 (some 126)) 1 (some 127)))) (126 + t) = some (.inl (.int, no, 0, fun _ => none)) := fun t ht => by
    rcases (show t = 0 ∨ t = 1 by omega) with rfl | rfl
    · rw [spt_o (by decide), spt_o (by decide)]
      exact spt_s
    · rw [spt_o (by decide)]
      exact spt_s
  have hrw4 : RW (spt (spt (spt (spt (spt s1 124 (.inl (.int, N, 0, fun _ => none))) 125 (.inl (.array .int, 2, 2, fun _ => none))) 126 (.inl (.int, no, 0, fun _ => none))) 127 (.inl (.int, no, 0, fun _ => none))) 125 (.inl (.array .int, 2, 2, va_up (va_up (fun _ => none) 0 (some 126)) 1 (some 127)))) (izr (izr (izr (izr I1 124) 125) 126) 127) N kd ow r2 r3 := ⟨⟨f, (o4 100 (by decide)).trans hs0, hf⟩, fun j hj => (o4 _ (by omega)).trans (hr j hj), fun j hj => by rw [oI (101 + j) (by omega)]; exact hR j hj⟩
  have hz4 : (∀ a, 3 ≤ a → a ≤ 13 → (izr (izr (izr (izr I1 124) 125) 126) 127) a = fun _ => 0) ∧ (izr (izr (izr (izr I1 124) 125) 126) 127) 1 11 = 0 ∧ (izr (izr (izr (izr I1 124) 125) 126) 127) 1 12 = 0 := ⟨fun a h1 h2 => (oI a (by omega)).trans (hz1.1 a h1 h2), (congrFun (oI 1 (by decide)) 11).trans hz1.2.1, (congrFun (oI 1 (by decide)) 12).trans hz1.2.2⟩
  have hfr4 : ∀ a, 14 ≤ a → a ≤ 80 → (spt (spt (spt (spt (spt s1 124 (.inl (.int, N, 0, fun _ => none))) 125 (.inl (.array .int, 2, 2, fun _ => none))) 126 (.inl (.int, no, 0, fun _ => none))) 127 (.inl (.int, no, 0, fun _ => none))) 125 (.inl (.array .int, 2, 2, va_up (va_up (fun _ => none) 0 (some 126)) 1 (some 127)))) a = none := fun a h1 h2 => (o4 a (by omega)).trans (hfr1 a (by omega))
  obtain ⟨w, hsw⟩ : ∃ w : Nat, (s ≤ 6 ∧ w = 1) ∨ (s = 7 ∧ w = 2) := by
    rcases Nat.lt_or_ge 6 s with q | q
    · exact ⟨2, by omega⟩
    · exact ⟨1, by omega⟩
  refine gw_callAI s_W_law_226 (w_isBuilt (w := w) hx hN4 hM4 h124 h125 hf5 h126 hrw4 hrk (by omega) (by omega) hsw hz4 hfr4) (S := [_]) rfl (kc := kc) (ks := ks) (by omega) (by omega) rfl gcR_1 (by decide) (by decide +kernel) (Nat.le_of_ble_eq_true rfl) (fun s5 I5 J5 w226 => ?_)
  obtain ⟨dt, ot, hSH, hC, hk3, hold, hI5, hd5, ho5, h135, hi5, h174, h2412, h2413⟩ := w226
  have hlaw : LAWq s5 I5 J5 N ni c s no w kd ow r2 r3 dt ot := ⟨hrk, ⟨⟨f, (hold 100 (by decide)).1.trans ((o4 100 (by decide)).trans hs0), hf⟩, fun j hj => (hold _ (by omega)).1.trans ((o4 _ (by omega)).trans (hr j hj)), fun j hj => by rw [hI5 (101 + j) (by omega) (by omega) (by omega) (by omega), oI (101 + j) (by omega)]; exact hR j hj⟩, hSH, hC, hk3, (hold 124 (by decide)).1.trans h124, ⟨_, (hold 125 (by decide)).1.trans h125, hf5⟩, fun t ht => (hold _ (by omega)).1.trans (h126 t ht), hd5, ho5, by omega, hsw⟩
  have hfr5 : ∀ a, 128 ≤ a → s5 a = none := fun a ha => (hold a (by omega)).1.trans (by rw [spt_o (by omega), spt_o (by omega), spt_o (by omega), spt_o (by omega), spt_o (by omega)]; exact hfr1 a (by omega))
  refine gi_iandN (a := 1) (b := 1) d_W_law_229 ?_
  refine gi_top rfl ?_
  refine lf_istore_n d_W_law_230 rfl (by decide +kernel) (L2 := [(2, _), (8, _), (7, _), (6, _), (5, _), (4, _), (3, _), (1, _), (0, _)]) rfl ?_
  refine lf_sub [7, 8, 0, 6, 5, 4, 3, 2, 1] rfl ?_
  exact k231 s5 I5 J5 N ni c s no w kd ow r2 r3 dt ot hlaw h135 hi5 ⟨h174, h2412, h2413⟩ hfr5
end LA1
