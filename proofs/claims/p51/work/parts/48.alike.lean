section TT14
variable {X : XT} {L9 : Nat} {xs : Nat → Int32} {sh : sM} {I : mI} {J : mJ}

variable {D : mF} {P : Option Value → mF → Prop} {PX : String → mF → Prop} {kc ks : Nat}

theorem t_sa_i (hx : HX X L9 xs) {cc w s ni no n : Nat} {dt : Nat → Nat} {ot : Nat → Nat → Nat} (hT : clT sh cc (2 ^ (s - ni))) (hV : clV sh n w) (hcc : cc = 2 ^ s) (hs7 : s ≤ 7) (hi9 : I 24 2 = ni) (hi3 : I 24 3 = ((2 ^ (s - ni) : Nat) : Int)) (hnis : ni ≤ s) (hc6 : ∀ c, c < 2 ^ ni → c < 64) (hfk : FK I J w s ni dt ot no) {m : Nat → Bool} (hm : ∀ y, y < 2 ^ (s - ni) → I 42 y = bz (m y)) {x : Nat} (hx9 : x < 2 ^ (s - ni)) (hmx : m x = true) (k83 : ∀ I1 : mI, ((∀ a, ¬ a = 43 → I1 a = I a) ∧ (∀ y, y < 2 ^ (s - ni) → I1 43 y = bz (anyB (AP (KP J) ni (unl2 J w s ot no) (fun c => nxt J w s ni dt c) m y) ((x + 1) * 2 ^ ni)))) → LXf TT cl6 X mi_T_stepAlike (40 + 2) (1000 + 200 * 2) D P PX kc ks 83 [(1, .int (Int32.ofInt ((x : Nat) : Int))), (0, .ref 24)] [] (hp sh I1 J)) : ∀ (d c : Nat) (I1 : mI), c + d = 2 ^ ni → ((∀ a, ¬ a = 43 → I1 a = I a) ∧ (∀ y, y < 2 ^ (s - ni) → I1 43 y = bz (anyB (AP (KP J) ni (unl2 J w s ot no) (fun c => nxt J w s ni dt c) m y) (x * 2 ^ ni + c)))) → LXf TT cl6 X mi_T_stepAlike (40 + 2) (1000 + 200 * 2) D P PX kc ks 32 [(2, .int (Int32.ofInt ((c : Nat) : Int))), (0, .ref 24), (1, .int (Int32.ofInt ((x : Nat) : Int)))] [] (hp sh I1 J) := by
  have hn128 : 2 ^ ni ≤ 128 := pow2_7 (by omega)
  have hS128 : 2 ^ (s - ni) ≤ 128 := pow2_7 (by omega)
  intro d
  induction d with
  | zero =>
    intro c I1 hc he
    have hn128 : 2 ^ ni ≤ 128 := pow2_7 (by omega)
    have hi91 : I1 24 2 = (ni : Int) := by rw [he.1 24 (by decide)]; exact hi9
    refine lf_iload_n d_T_stepAlike_32 rfl rfl ?_
    refine lf_iconst d_T_stepAlike_33 (v := Int32.ofInt ((1 : Nat) : Int)) rfl ?_
    refine lf_aload_n d_T_stepAlike_34 rfl rfl rfl ?_
    refine gi_geti s_T_stepAlike_35 (c_24 hT) rfl ?_
    refine gi_top hi91 ?_
    refine gi_ishlN (a := 1) (s := ni) d_T_stepAlike_38 (by omega) ?_
    refine gi_top (show ((1 * 2 ^ ni : Nat) : Int) = ((2 ^ ni : Nat) : Int) from by rw [Nat.one_mul]) ?_
    refine gi_icmp_ge d_T_stepAlike_39 (tgt := 83) (by decide) (by omega) (fun hb39 => ?_) (fun hb39 => False.elim (by omega))
    refine lf_sub [2, 1] rfl ?_
    exact k83 I1 (by rw [Nat.add_mul, Nat.one_mul]; rw [show c = 2 ^ ni by omega] at he; exact he)
  | succ d ih =>
    intro c I1 hc he
    have hc64 := hc6 c (by omega)
    have hfk1 : FK I1 J w s ni dt ot no := FK_2 (by rw [he.1 24 (by decide)]) (fun q => by rw [he.1 36 (by decide)]) hfk
    have hxS : x < 2 ^ (s - ni) := hx9
    have skip : ((KP J c && !unl2 J w s ot no (chc ni x c)) = false) → ∀ y, y < 2 ^ (s - ni) → I1 43 y = bz (anyB (AP (KP J) ni (unl2 J w s ot no) (fun c => nxt J w s ni dt c) m y) (x * 2 ^ ni + c + 1)) := by
      intro h y hy
      rw [he.2 y hy]
      show bz _ = bz (anyB _ (x * 2 ^ ni + c) || AP _ _ _ _ _ _ (x * 2 ^ ni + c))
      rw [AP_at (by omega), hmx, Bool.true_and, h, Bool.false_and, Bool.or_false]
    have hi91 : I1 24 2 = (ni : Int) := by rw [he.1 24 (by decide)]; exact hi9
    by_cases hk : lb (J 15 11) c = true
    · by_cases hu : unl2 J w s ot no (chc ni x c) = true
      · refine lf_iload_n d_T_stepAlike_32 rfl rfl ?_
        refine lf_iconst d_T_stepAlike_33 (v := Int32.ofInt ((1 : Nat) : Int)) rfl ?_
        refine lf_aload_n d_T_stepAlike_34 rfl rfl rfl ?_
        refine gi_geti s_T_stepAlike_35 (c_24 hT) rfl ?_
        refine gi_top hi91 ?_
        refine gi_ishlN (a := 1) (s := ni) d_T_stepAlike_38 (by omega) ?_
        refine gi_top (show ((1 * 2 ^ ni : Nat) : Int) = ((2 ^ ni : Nat) : Int) from by rw [Nat.one_mul]) ?_
        refine gi_icmp_ge d_T_stepAlike_39 (tgt := 83) (by decide) (by omega) (fun hb39 => False.elim (by omega)) (fun hb39 => ?_)
        refine lf_aload_n d_T_stepAlike_42 rfl rfl rfl ?_
        refine lf_iload_n d_T_stepAlike_43 rfl rfl ?_
        refine lf_iload_n d_T_stepAlike_44 rfl rfl ?_
        refine gw_callP s_T_stepAlike_45 (t_stepFrom hx hT hcc hs7 hi91 hnis hfk1 hxS (ch := c) (by omega)) (S := []) rfl rfl (gcR_2 (c_24 hT)) (by decide) (by decide +kernel) (Nat.le_of_ble_eq_true rfl) ?_
        refine lf_istore_n d_T_stepAlike_48 rfl (by decide +kernel) (L2 := [(3, _), (2, _), (0, _), (1, _)]) rfl ?_
        refine lf_aload_n d_T_stepAlike_49 rfl rfl rfl ?_
        refine gi_getr s_T_stepAlike_50 (c_24 hT) rfl ?_
        refine lf_iload_n d_T_stepAlike_53 rfl rfl ?_
        refine gw_callP s_T_stepAlike_54 (v_areKeptInputs hx hV (c := c) hc64) (S := []) rfl rfl (gcR_2 (c_15 hV)) (by decide) (by decide +kernel) (Nat.le_of_ble_eq_true rfl) ?_
        refine gb_if_eq d_T_stepAlike_57 (tgt := 77) (by decide) (fun hb57 => False.elim (by exact hb57 hk)) (fun hb57 => ?_)
        refine lf_iload_n d_T_stepAlike_60 rfl rfl ?_
        refine lf_sipush d_T_stepAlike_61 (v := Int32.ofInt ((256 : Nat) : Int)) (by decide +kernel) ?_
        refine gi_iandN (a := (fol J w s ni dt ot no (chc ni x c))) (b := 256) d_T_stepAlike_64 ?_
        refine gi_top (show ((fol J w s ni dt ot no (chc ni x c) &&& 256 : Nat) : Int) = (if unl2 J w s ot no (chc ni x c) = true then 256 else 0 : Int) from by rw [fol_u hs7]; split <;> rfl) ?_
        refine gi_if_ne d_T_stepAlike_65 (tgt := 77) (by decide) u256_r (fun hb65 => ?_) (fun hb65 => False.elim (by exact u256_0.mp hb65 hu))
        refine gi_iincN d_T_stepAlike_77 rfl (by decide +kernel) (L2 := [(2, _), (3, _), (0, _), (1, _)]) rfl ?_
        refine lf_goto d_T_stepAlike_80 (tgt := 32) (by decide) ?_
        refine lf_sub [0, 2, 3] rfl ?_
        exact ih (c + 1) I1 (by omega) ⟨he.1, skip (by rw [hu]; exact Bool.and_false _)⟩
      · have hu2 : unl2 J w s ot no (chc ni x c) = false := by cases h9 : unl2 J w s ot no (chc ni x c) with | false => rfl | true => exact absurd h9 hu
        have hfl : fol J w s ni dt ot no (chc ni x c) = nxt J w s ni dt (chc ni x c) := fol_0 hs7 hu2
        have hnl : nxt J w s ni dt (chc ni x c) < 2 ^ (s - ni) := nxt_lt
        refine lf_iload_n d_T_stepAlike_32 rfl rfl ?_
        refine lf_iconst d_T_stepAlike_33 (v := Int32.ofInt ((1 : Nat) : Int)) rfl ?_
        refine lf_aload_n d_T_stepAlike_34 rfl rfl rfl ?_
        refine gi_geti s_T_stepAlike_35 (c_24 hT) rfl ?_
        refine gi_top hi91 ?_
        refine gi_ishlN (a := 1) (s := ni) d_T_stepAlike_38 (by omega) ?_
        refine gi_top (show ((1 * 2 ^ ni : Nat) : Int) = ((2 ^ ni : Nat) : Int) from by rw [Nat.one_mul]) ?_
        refine gi_icmp_ge d_T_stepAlike_39 (tgt := 83) (by decide) (by omega) (fun hb39 => False.elim (by omega)) (fun hb39 => ?_)
        refine lf_aload_n d_T_stepAlike_42 rfl rfl rfl ?_
        refine lf_iload_n d_T_stepAlike_43 rfl rfl ?_
        refine lf_iload_n d_T_stepAlike_44 rfl rfl ?_
        refine gw_callP s_T_stepAlike_45 (t_stepFrom hx hT hcc hs7 hi91 hnis hfk1 hxS (ch := c) (by omega)) (S := []) rfl rfl (gcR_2 (c_24 hT)) (by decide) (by decide +kernel) (Nat.le_of_ble_eq_true rfl) ?_
        refine lf_istore_n d_T_stepAlike_48 rfl (by decide +kernel) (L2 := [(3, _), (2, _), (0, _), (1, _)]) rfl ?_
        refine lf_aload_n d_T_stepAlike_49 rfl rfl rfl ?_
        refine gi_getr s_T_stepAlike_50 (c_24 hT) rfl ?_
        refine lf_iload_n d_T_stepAlike_53 rfl rfl ?_
        refine gw_callP s_T_stepAlike_54 (v_areKeptInputs hx hV (c := c) hc64) (S := []) rfl rfl (gcR_2 (c_15 hV)) (by decide) (by decide +kernel) (Nat.le_of_ble_eq_true rfl) ?_
        refine gb_if_eq d_T_stepAlike_57 (tgt := 77) (by decide) (fun hb57 => False.elim (by exact hb57 hk)) (fun hb57 => ?_)
        refine lf_iload_n d_T_stepAlike_60 rfl rfl ?_
        refine lf_sipush d_T_stepAlike_61 (v := Int32.ofInt ((256 : Nat) : Int)) (by decide +kernel) ?_
        refine gi_iandN (a := (fol J w s ni dt ot no (chc ni x c))) (b := 256) d_T_stepAlike_64 ?_
        refine gi_top (show ((fol J w s ni dt ot no (chc ni x c) &&& 256 : Nat) : Int) = (if unl2 J w s ot no (chc ni x c) = true then 256 else 0 : Int) from by rw [fol_u hs7]; split <;> rfl) ?_
        refine gi_if_ne d_T_stepAlike_65 (tgt := 77) (by decide) u256_r (fun hb65 => False.elim (by exact hb65 (u256_0.mpr hu))) (fun hb65 => ?_)
        refine lf_aload_n d_T_stepAlike_68 rfl rfl rfl ?_
        refine gi_getr s_T_stepAlike_69 (c_24 hT) rfl ?_
        refine lf_iload_n d_T_stepAlike_72 rfl rfl ?_
        refine lf_iconst d_T_stepAlike_73 (v := Int32.ofInt ((1 : Nat) : Int)) rfl ?_
        refine gw_callV s_T_stepAlike_74 (m_putNumberN hx (c_43 hT) (k := fol J w s ni dt ot no (chc ni x c)) (by omega)) (S := []) rfl rfl gcR_4 (by decide) (by decide +kernel) (Nat.le_of_ble_eq_true rfl) (fun I J w74 => ?_)
        obtain ⟨rfl, rfl⟩ := w74
        refine gi_iincN d_T_stepAlike_77 rfl (by decide +kernel) (L2 := [(2, _), (3, _), (0, _), (1, _)]) rfl ?_
        refine lf_goto d_T_stepAlike_80 (tgt := 32) (by decide) ?_
        refine lf_sub [0, 2, 3] rfl ?_
        refine ih (c + 1) _ (by omega) ⟨fun a ha => by rw [ipt_o ha]; exact he.1 a ha, fun y hy => ?_⟩
        rw [ipt_s, hfl]
        show _ = bz (anyB _ (x * 2 ^ ni + c) || AP _ _ _ _ _ _ (x * 2 ^ ni + c))
        rw [AP_at (by omega), hmx, hu2]
        by_cases q : y = nxt J w s ni dt (chc ni x c)
        · rw [if_pos q, decide_eq_true q.symm, show KP J c = true from hk]
          simp [bz]
        · rw [if_neg q, decide_eq_false (fun z => q z.symm), Bool.and_false, Bool.or_false]
          exact he.2 y hy
    · have hk2 : KP J c = false := by cases h9 : KP J c with | false => rfl | true => exact absurd h9 hk
      refine lf_iload_n d_T_stepAlike_32 rfl rfl ?_
      refine lf_iconst d_T_stepAlike_33 (v := Int32.ofInt ((1 : Nat) : Int)) rfl ?_
      refine lf_aload_n d_T_stepAlike_34 rfl rfl rfl ?_
      refine gi_geti s_T_stepAlike_35 (c_24 hT) rfl ?_
      refine gi_top hi91 ?_
      refine gi_ishlN (a := 1) (s := ni) d_T_stepAlike_38 (by omega) ?_
      refine gi_top (show ((1 * 2 ^ ni : Nat) : Int) = ((2 ^ ni : Nat) : Int) from by rw [Nat.one_mul]) ?_
      refine gi_icmp_ge d_T_stepAlike_39 (tgt := 83) (by decide) (by omega) (fun hb39 => False.elim (by omega)) (fun hb39 => ?_)
      refine lf_aload_n d_T_stepAlike_42 rfl rfl rfl ?_
      refine lf_iload_n d_T_stepAlike_43 rfl rfl ?_
      refine lf_iload_n d_T_stepAlike_44 rfl rfl ?_
      refine gw_callP s_T_stepAlike_45 (t_stepFrom hx hT hcc hs7 hi91 hnis hfk1 hxS (ch := c) (by omega)) (S := []) rfl rfl (gcR_2 (c_24 hT)) (by decide) (by decide +kernel) (Nat.le_of_ble_eq_true rfl) ?_
      refine lf_istore_n d_T_stepAlike_48 rfl (by decide +kernel) (L2 := [(3, _), (2, _), (0, _), (1, _)]) rfl ?_
      refine lf_aload_n d_T_stepAlike_49 rfl rfl rfl ?_
      refine gi_getr s_T_stepAlike_50 (c_24 hT) rfl ?_
      refine lf_iload_n d_T_stepAlike_53 rfl rfl ?_
      refine gw_callP s_T_stepAlike_54 (v_areKeptInputs hx hV (c := c) hc64) (S := []) rfl rfl (gcR_2 (c_15 hV)) (by decide) (by decide +kernel) (Nat.le_of_ble_eq_true rfl) ?_
      refine gb_if_eq d_T_stepAlike_57 (tgt := 77) (by decide) (fun hb57 => ?_) (fun hb57 => False.elim (by exact hk hb57))
      refine gi_iincN d_T_stepAlike_77 rfl (by decide +kernel) (L2 := [(2, _), (3, _), (0, _), (1, _)]) rfl ?_
      refine lf_goto d_T_stepAlike_80 (tgt := 32) (by decide) ?_
      refine lf_sub [0, 2, 3] rfl ?_
      exact ih (c + 1) I1 (by omega) ⟨he.1, skip (by rw [hk2, Bool.false_and])⟩
theorem t_sa_o (hx : HX X L9 xs) {cc w s ni no n : Nat} {dt : Nat → Nat} {ot : Nat → Nat → Nat} (hT : clT sh cc (2 ^ (s - ni))) (hV : clV sh n w) (hcc : cc = 2 ^ s) (hs7 : s ≤ 7) (hi9 : I 24 2 = ni) (hi3 : I 24 3 = ((2 ^ (s - ni) : Nat) : Int)) (hnis : ni ≤ s) (hc6 : ∀ c, c < 2 ^ ni → c < 64) (hfk : FK I J w s ni dt ot no) {m : Nat → Bool} (hm : ∀ y, y < 2 ^ (s - ni) → I 42 y = bz (m y)) (k89 : ∀ I1 : mI, ((∀ a, ¬ a = 43 → I1 a = I a) ∧ (∀ y, y < 2 ^ (s - ni) → I1 43 y = bz (anyB (AP (KP J) ni (unl2 J w s ot no) (fun c => nxt J w s ni dt c) m y) (2 ^ s)))) → LXf TT cl6 X mi_T_stepAlike (40 + 2) (1000 + 200 * 2) D P PX kc ks 89 [(0, .ref 24)] [] (hp sh I1 J)) : ∀ (d x : Nat) (I1 : mI), x + d = 2 ^ (s - ni) → ((∀ a, ¬ a = 43 → I1 a = I a) ∧ (∀ y, y < 2 ^ (s - ni) → I1 43 y = bz (anyB (AP (KP J) ni (unl2 J w s ot no) (fun c => nxt J w s ni dt c) m y) (x * 2 ^ ni)))) → LXf TT cl6 X mi_T_stepAlike (40 + 2) (1000 + 200 * 2) D P PX kc ks 10 [(1, .int (Int32.ofInt ((x : Nat) : Int))), (0, .ref 24)] [] (hp sh I1 J) := by
  have hn128 : 2 ^ ni ≤ 128 := pow2_7 (by omega)
  have hS128 : 2 ^ (s - ni) ≤ 128 := pow2_7 (by omega)
  intro d
  induction d with
  | zero =>
    intro x I1 hd he
    have hi31 : I1 24 3 = ((2 ^ (s - ni) : Nat) : Int) := by rw [he.1 24 (by decide)]; exact hi3
    refine lf_iload_n d_T_stepAlike_10 rfl rfl ?_
    refine lf_aload_n d_T_stepAlike_11 rfl rfl rfl ?_
    refine gi_geti s_T_stepAlike_12 (c_24 hT) rfl ?_
    refine gi_top hi31 ?_
    refine gi_icmp_ge d_T_stepAlike_15 (tgt := 89) (by decide) (by omega) (fun hb15 => ?_) (fun hb15 => False.elim (by omega))
    refine lf_sub [1] rfl ?_
    exact k89 I1 (by rw [show x = 2 ^ (s - ni) by omega, pow_sp hnis] at he; exact he)
  | succ d ih =>
    intro x I1 hd he
    have hi31 : I1 24 3 = ((2 ^ (s - ni) : Nat) : Int) := by rw [he.1 24 (by decide)]; exact hi3
    have hxS : x < 2 ^ (s - ni) := by omega
    have hmx1 : I1 42 x = bz (m x) := by rw [he.1 42 (by decide)]; exact hm x hxS
    have k83 : ∀ I2 : mI, ((∀ a, ¬ a = 43 → I2 a = I a) ∧ (∀ y, y < 2 ^ (s - ni) → I2 43 y = bz (anyB (AP (KP J) ni (unl2 J w s ot no) (fun c => nxt J w s ni dt c) m y) ((x + 1) * 2 ^ ni)))) → LXf TT cl6 X mi_T_stepAlike (40 + 2) (1000 + 200 * 2) D P PX kc ks 83 [(1, .int (Int32.ofInt ((x : Nat) : Int))), (0, .ref 24)] [] (hp sh I2 J) := by
      intro I2 he2
      refine gi_iincN d_T_stepAlike_83 rfl (by decide +kernel) (L2 := [(1, _), (0, _)]) rfl ?_
      refine lf_goto d_T_stepAlike_86 (tgt := 10) (by decide) ?_
      exact ih (x + 1) I2 (by omega) he2
    cases hmx : m x with
    | true =>
      rw [hmx] at hmx1
      refine lf_iload_n d_T_stepAlike_10 rfl rfl ?_
      refine lf_aload_n d_T_stepAlike_11 rfl rfl rfl ?_
      refine gi_geti s_T_stepAlike_12 (c_24 hT) rfl ?_
      refine gi_top hi31 ?_
      refine gi_icmp_ge d_T_stepAlike_15 (tgt := 89) (by decide) (by omega) (fun hb15 => False.elim (by omega)) (fun hb15 => ?_)
      refine lf_aload_n d_T_stepAlike_18 rfl rfl rfl ?_
      refine gi_getr s_T_stepAlike_19 (c_24 hT) rfl ?_
      refine lf_iload_n d_T_stepAlike_22 rfl rfl ?_
      refine gw_callP s_T_stepAlike_23 (m_numberAtN hx (c_42 hT) (by omega)) (S := []) rfl rfl gcR_4 (by decide) (by decide +kernel) (Nat.le_of_ble_eq_true rfl) ?_
      refine gi_top (show I1 42 x = ((1 : Nat) : Int) from hmx1) ?_
      refine lf_iconst d_T_stepAlike_26 (v := Int32.ofInt ((1 : Nat) : Int)) rfl ?_
      refine gi_icmp_ne d_T_stepAlike_27 (tgt := 83) (by decide) (by omega) (fun hb27 => False.elim (by omega)) (fun hb27 => ?_)
      refine lf_iconst d_T_stepAlike_30 (v := Int32.ofInt ((0 : Nat) : Int)) rfl ?_
      refine lf_istore_n d_T_stepAlike_31 rfl (by decide +kernel) (L2 := [(2, _), (1, _), (0, _)]) rfl ?_
      refine lf_sub [0, 2, 1] rfl ?_
      exact t_sa_i hx hT hV hcc hs7 hi9 hi3 hnis hc6 hfk hm hxS hmx k83 (2 ^ ni) 0 I1 (by omega) he
    | false =>
      rw [hmx] at hmx1
      refine lf_iload_n d_T_stepAlike_10 rfl rfl ?_
      refine lf_aload_n d_T_stepAlike_11 rfl rfl rfl ?_
      refine gi_geti s_T_stepAlike_12 (c_24 hT) rfl ?_
      refine gi_top hi31 ?_
      refine gi_icmp_ge d_T_stepAlike_15 (tgt := 89) (by decide) (by omega) (fun hb15 => False.elim (by omega)) (fun hb15 => ?_)
      refine lf_aload_n d_T_stepAlike_18 rfl rfl rfl ?_
      refine gi_getr s_T_stepAlike_19 (c_24 hT) rfl ?_
      refine lf_iload_n d_T_stepAlike_22 rfl rfl ?_
      refine gw_callP s_T_stepAlike_23 (m_numberAtN hx (c_42 hT) (by omega)) (S := []) rfl rfl gcR_4 (by decide) (by decide +kernel) (Nat.le_of_ble_eq_true rfl) ?_
      refine gi_top (show I1 42 x = ((0 : Nat) : Int) from hmx1) ?_
      refine lf_iconst d_T_stepAlike_26 (v := Int32.ofInt ((1 : Nat) : Int)) rfl ?_
      refine gi_icmp_ne d_T_stepAlike_27 (tgt := 83) (by decide) (by omega) (fun hb27 => ?_) (fun hb27 => False.elim (by omega))
      refine k83 I1 ⟨he.1, fun y hy => ?_⟩
      rw [anyB_blk (fun i hi => by rw [AP_at hi, hmx]; rfl)]
      exact he.2 y hy
theorem t_stepAlike (hx : HX X L9 xs) {cc w s ni no n : Nat} {dt : Nat → Nat} {ot : Nat → Nat → Nat} (hT : clT sh cc (2 ^ (s - ni))) (hV : clV sh n w) (hcc : cc = 2 ^ s) (hs7 : s ≤ 7) (hi9 : I 24 2 = ni) (hi3 : I 24 3 = ((2 ^ (s - ni) : Nat) : Int)) (hnis : ni ≤ s) (hc6 : ∀ c, c < 2 ^ ni → c < 64) (hfk : FK I J w s ni dt ot no) {m : Nat → Bool} (hm : ∀ y, y < 2 ^ (s - ni) → I 42 y = bz (m y))  : EVv TT cl6 X mi_T_stepAlike 2 [.ref 24] sh I J (fun I1 J1 => (∀ a, ¬ a = 42 → ¬ a = 43 → I1 a = I a) ∧ (∀ y, y < 2 ^ (s - ni) → I1 42 y = bz (alk (KP J) ni s (unl2 J w s ot no) (fun c => nxt J w s ni dt c) m y)) ∧ J1 = J) := by
  have hS128 : 2 ^ (s - ni) ≤ 128 := pow2_7 (by omega)
  refine gw_enter (hx_ok hx) (by decide +kernel) (Nat.le_of_ble_eq_true rfl) (L := [(0, _)]) rfl ?_
  refine lf_aload_n d_T_stepAlike_0 rfl rfl rfl ?_
  refine gi_getr s_T_stepAlike_1 (c_24 hT) rfl ?_
  refine lf_iconst d_T_stepAlike_4 (v := Int32.ofInt ((0 : Nat) : Int)) rfl ?_
  refine gw_callV s_T_stepAlike_5 (j_fill (x := ((0 : Nat) : Int)) hx (c_43 hT) (by omega)) (S := []) rfl rfl gcR_1 (by decide) (by decide +kernel) (Nat.le_of_ble_eq_true rfl) (fun I J w5 => ?_)
  obtain ⟨w5a, w5b, rfl⟩ := w5
  refine lf_iconst d_T_stepAlike_8 (v := Int32.ofInt ((0 : Nat) : Int)) rfl ?_
  refine lf_istore_n d_T_stepAlike_9 rfl (by decide +kernel) (L2 := [(1, _), (0, _)]) rfl ?_
  refine t_sa_o  hx hT hV hcc hs7 (by rw [w5a 24 (by decide)]; exact hi9) (by rw [w5a 24 (by decide)]; exact hi3) hnis hc6 (FK_2 (by rw [w5a 24 (by decide)]) (fun q => by rw [w5a 36 (by decide)]) hfk) (m := m) (fun y hy => by rw [w5a 42 (by decide)]; exact hm y hy) (fun I1 he => ?_) (2 ^ (s - ni)) 0 I (by omega) ⟨fun _ _ => rfl, fun y hy => by rw [w5b y hy, Nat.zero_mul]; rfl⟩
  have hi31 : I1 24 3 = ((2 ^ (s - ni) : Nat) : Int) := by rw [he.1 24 (by decide), w5a 24 (by decide)]; exact hi3
  refine lf_aload_n d_T_stepAlike_89 rfl rfl rfl ?_
  refine gi_getr s_T_stepAlike_90 (c_24 hT) rfl ?_
  refine lf_iconst d_T_stepAlike_93 (v := Int32.ofInt ((0 : Nat) : Int)) rfl ?_
  refine lf_aload_n d_T_stepAlike_94 rfl rfl rfl ?_
  refine gi_getr s_T_stepAlike_95 (c_24 hT) rfl ?_
  refine lf_iconst d_T_stepAlike_98 (v := Int32.ofInt ((0 : Nat) : Int)) rfl ?_
  refine lf_aload_n d_T_stepAlike_99 rfl rfl rfl ?_
  refine gi_geti s_T_stepAlike_100 (c_24 hT) rfl ?_
  refine gi_top hi31 ?_
  refine gi_copyI d_T_stepAlike_103 tac_L tac_N tac_S tac_I ⟨Nat.le_of_ble_eq_true rfl, by decide +kernel⟩ (c_43 hT) (c_42 hT) (Nat.le_refl _) (Nat.le_refl _) (by omega) ?_
  refine gw_ret d_T_stepAlike_106 rfl ?_
  exact ⟨rfl, rfl, fun a h1 h2 => by rw [cpyI_o h1, he.1 a h2, w5a a h2], fun y hy => by rw [cpyI_s hy]; exact he.2 y hy, rfl⟩
end TT14
