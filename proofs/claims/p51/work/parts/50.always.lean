section TT16
variable {X : XT} {L9 : Nat} {xs : Nat → Int32} {sh : sM} {I : mI} {J : mJ}

variable {D : mF} {P : Option Value → mF → Prop} {PX : String → mF → Prop} {kc ks : Nat}

/-- with all kept inputs the line is 1 in the state -/
def al1 (J : mJ) (w s ni k x : Nat) : Bool := !anyB (fun ch => KP J ch && !hbit J w s k (chc ni x ch)) (2 ^ ni)
def ivP (J : mJ) (w s ni : Nat) (dt : Nat → Nat) (k c : Nat) : Bool := KP J (c % 2 ^ ni) && !al1 J w s ni k (nxt J w s ni dt c) && hbit J w s k c
theorem al1_t {w s ni k x : Nat} (h : al1 J w s ni k x = true) : ∀ ch, ch < 2 ^ ni → lb (J 15 11) ch = true → hbit J w s k (chc ni x ch) = true := by
  intro ch h1 h2
  unfold al1 at h
  have h9 : anyB (fun ch => KP J ch && !hbit J w s k (chc ni x ch)) (2 ^ ni) = false := by
    cases e : anyB (fun ch => KP J ch && !hbit J w s k (chc ni x ch)) (2 ^ ni) with
    | false => rfl
    | true => rw [e] at h; cases h
  have g := anyB_f.mp h9 ch h1
  have h3 : KP J ch = true := h2
  rw [h3, Bool.true_and] at g
  cases e : hbit J w s k (chc ni x ch) with
  | true => rfl
  | false => rw [e] at g; cases g
theorem al1_f {w s ni k x : Nat} (h : al1 J w s ni k x = false) : ∃ ch, ch < 2 ^ ni ∧ lb (J 15 11) ch = true ∧ hbit J w s k (chc ni x ch) = false := by
  unfold al1 at h
  have h9 : anyB (fun ch => KP J ch && !hbit J w s k (chc ni x ch)) (2 ^ ni) = true := by
    cases e : anyB (fun ch => KP J ch && !hbit J w s k (chc ni x ch)) (2 ^ ni) with
    | true => rfl
    | false => rw [e] at h; cases h
  obtain ⟨ch, h1, h2⟩ := anyB_t.mp h9
  rw [Bool.and_eq_true] at h2
  refine ⟨ch, h1, h2.1, ?_⟩
  cases e : hbit J w s k (chc ni x ch) with
  | false => rfl
  | true => rw [e] at h2; exact absurd h2.2 (by decide)
theorem t_ao_m (hx : HX X L9 xs) (hN : clN sh) {cc : Nat} {n w s : Nat} (hV : clV sh n w) (hn2 : n ≤ 80) (hs : I 15 1 = s) (hw : I 15 2 = w) (hsw : (s ≤ 6 ∧ w = 1) ∨ (s = 7 ∧ w = 2)) {ni no : Nat} {fi dt : Nat → Nat} {ot : Nat → Nat → Nat} (hT : clT sh cc (2 ^ (s - ni))) (hcc : cc = 2 ^ s) (hnt : NT I n s ni no fi dt ot) (hi9 : I 24 2 = ni) (hi3 : I 24 3 = ((2 ^ (s - ni) : Nat) : Int)) (hc6 : ∀ c, c < 2 ^ ni → c < 64) (hfk : FK I J w s ni dt ot no) {k : Nat} (hk : k < n) (k42 : ∀ I1 : mI, (∀ a, ¬ a = 42 → I1 a = I a) ∧ (∀ y, y < 2 ^ (s - ni) → I1 42 y = bz (al1 J w s ni k y)) → LXf TT cl6 X mi_T_isAlwaysOne (40 + 6) (1000 + 200 * 6) D P PX kc ks 42 [(0, .ref 24), (1, .int (Int32.ofInt ((k : Nat) : Int)))] [] (hp sh I1 J)) : ∀ (d x : Nat) (I1 : mI), x + d = 2 ^ (s - ni) → (∀ a, ¬ a = 42 → I1 a = I a) ∧ (∀ y, y < x → I1 42 y = bz (al1 J w s ni k y)) → LXf TT cl6 X mi_T_isAlwaysOne (40 + 6) (1000 + 200 * 6) D P PX kc ks 6 [(2, .int (Int32.ofInt ((x : Nat) : Int))), (0, .ref 24), (1, .int (Int32.ofInt ((k : Nat) : Int)))] [] (hp sh I1 J) := by
  have hs7 : s ≤ 7 := by omega
  have hnis := hnt.2.1
  have hS128 : 2 ^ (s - ni) ≤ 128 := pow2_7 (by omega)
  have hC128 : 2 ^ s ≤ 128 := pow2_7 (by omega)
  intro d
  induction d with
  | zero =>
    intro x I1 hd he
    have hi31 : I1 24 3 = ((2 ^ (s - ni) : Nat) : Int) := by rw [he.1 24 (by decide)]; exact hi3
    have hi91 : I1 24 2 = (ni : Int) := by rw [he.1 24 (by decide)]; exact hi9
    have hs1 : I1 15 1 = (s : Int) := by rw [he.1 15 (by decide)]; exact hs
    have hw1 : I1 15 2 = (w : Int) := by rw [he.1 15 (by decide)]; exact hw
    refine lf_iload_n d_T_isAlwaysOne_6 rfl rfl ?_
    refine lf_aload_n d_T_isAlwaysOne_7 rfl rfl rfl ?_
    refine gi_geti s_T_isAlwaysOne_8 (c_24 hT) rfl ?_
    refine gi_top hi31 ?_
    refine gi_icmp_ge d_T_isAlwaysOne_11 (tgt := 42) (by decide) (by omega) (fun hb11 => ?_) (fun hb11 => False.elim (by omega))
    refine lf_sub [1, 2] rfl ?_
    exact k42 I1 (by rw [show x = 2 ^ (s - ni) by omega] at he; exact he)
  | succ d ih =>
    intro x I1 hd he
    have hxS : x < 2 ^ (s - ni) := by omega
    have hi31 : I1 24 3 = ((2 ^ (s - ni) : Nat) : Int) := by rw [he.1 24 (by decide)]; exact hi3
    have hi91 : I1 24 2 = (ni : Int) := by rw [he.1 24 (by decide)]; exact hi9
    have hs1 : I1 15 1 = (s : Int) := by rw [he.1 15 (by decide)]; exact hs
    have hw1 : I1 15 2 = (w : Int) := by rw [he.1 15 (by decide)]; exact hw
    cases hal : al1 J w s ni k x with
    | true =>
      refine lf_iload_n d_T_isAlwaysOne_6 rfl rfl ?_
      refine lf_aload_n d_T_isAlwaysOne_7 rfl rfl rfl ?_
      refine gi_geti s_T_isAlwaysOne_8 (c_24 hT) rfl ?_
      refine gi_top hi31 ?_
      refine gi_icmp_ge d_T_isAlwaysOne_11 (tgt := 42) (by decide) (by omega) (fun hb11 => False.elim (by omega)) (fun hb11 => ?_)
      refine lf_aload_n d_T_isAlwaysOne_14 rfl rfl rfl ?_
      refine gi_getr s_T_isAlwaysOne_15 (c_24 hT) rfl ?_
      refine lf_iload_n d_T_isAlwaysOne_18 rfl rfl ?_
      refine lf_aload_n d_T_isAlwaysOne_19 rfl rfl rfl ?_
      refine lf_iload_n d_T_isAlwaysOne_20 rfl rfl ?_
      refine lf_iload_n d_T_isAlwaysOne_21 rfl rfl ?_
      refine gw_callP s_T_isAlwaysOne_22 (t_isOneIn hx hT hV hn2 hs1 hw1 hsw hi91 hnis hc6 hk hxS (r := ((1 : Nat) : Int)) (Or.inl ⟨rfl, al1_t hal⟩)) (S := [_, _]) rfl rfl (gcR_2 (c_24 hT)) (by decide) (by decide +kernel) (Nat.le_of_ble_eq_true rfl) ?_
      refine gi_if_eq d_T_isAlwaysOne_25 (tgt := 32) (by decide) (by omega) (fun hb25 => False.elim (by omega)) (fun hb25 => ?_)
      refine lf_iconst d_T_isAlwaysOne_28 (v := Int32.ofInt ((1 : Nat) : Int)) rfl ?_
      refine lf_goto d_T_isAlwaysOne_29 (tgt := 33) (by decide) ?_
      refine gw_callV s_T_isAlwaysOne_33 (m_putNumberN hx (c_42 hT) (by omega)) (S := []) rfl rfl gcR_4 (by decide) (by decide +kernel) (Nat.le_of_ble_eq_true rfl) (fun I J w33 => ?_)
      obtain ⟨rfl, rfl⟩ := w33
      refine gi_iincN d_T_isAlwaysOne_36 rfl (by decide +kernel) (L2 := [(2, _), (0, _), (1, _)]) rfl ?_
      refine lf_goto d_T_isAlwaysOne_39 (tgt := 6) (by decide) ?_
      refine ih (x + 1) _ (by omega) ⟨fun a ha => by rw [ipt_o ha]; exact he.1 a ha, fun y hy => ?_⟩
      rw [ipt_s]
      by_cases q : y = x
      · rw [if_pos q, q, hal]; rfl
      · rw [if_neg q]; exact he.2 y (by omega)
    | false =>
      refine lf_iload_n d_T_isAlwaysOne_6 rfl rfl ?_
      refine lf_aload_n d_T_isAlwaysOne_7 rfl rfl rfl ?_
      refine gi_geti s_T_isAlwaysOne_8 (c_24 hT) rfl ?_
      refine gi_top hi31 ?_
      refine gi_icmp_ge d_T_isAlwaysOne_11 (tgt := 42) (by decide) (by omega) (fun hb11 => False.elim (by omega)) (fun hb11 => ?_)
      refine lf_aload_n d_T_isAlwaysOne_14 rfl rfl rfl ?_
      refine gi_getr s_T_isAlwaysOne_15 (c_24 hT) rfl ?_
      refine lf_iload_n d_T_isAlwaysOne_18 rfl rfl ?_
      refine lf_aload_n d_T_isAlwaysOne_19 rfl rfl rfl ?_
      refine lf_iload_n d_T_isAlwaysOne_20 rfl rfl ?_
      refine lf_iload_n d_T_isAlwaysOne_21 rfl rfl ?_
      refine gw_callP s_T_isAlwaysOne_22 (t_isOneIn hx hT hV hn2 hs1 hw1 hsw hi91 hnis hc6 hk hxS (r := ((0 : Nat) : Int)) (Or.inr ⟨rfl, al1_f hal⟩)) (S := [_, _]) rfl rfl (gcR_2 (c_24 hT)) (by decide) (by decide +kernel) (Nat.le_of_ble_eq_true rfl) ?_
      refine gi_if_eq d_T_isAlwaysOne_25 (tgt := 32) (by decide) (by omega) (fun hb25 => ?_) (fun hb25 => False.elim (by omega))
      refine lf_iconst d_T_isAlwaysOne_32 (v := Int32.ofInt ((0 : Nat) : Int)) rfl ?_
      refine gw_callV s_T_isAlwaysOne_33 (m_putNumberN hx (c_42 hT) (by omega)) (S := []) rfl rfl gcR_4 (by decide) (by decide +kernel) (Nat.le_of_ble_eq_true rfl) (fun I J w33 => ?_)
      obtain ⟨rfl, rfl⟩ := w33
      refine gi_iincN d_T_isAlwaysOne_36 rfl (by decide +kernel) (L2 := [(2, _), (0, _), (1, _)]) rfl ?_
      refine lf_goto d_T_isAlwaysOne_39 (tgt := 6) (by decide) ?_
      refine ih (x + 1) _ (by omega) ⟨fun a ha => by rw [ipt_o ha]; exact he.1 a ha, fun y hy => ?_⟩
      rw [ipt_s]
      by_cases q : y = x
      · rw [if_pos q, q, hal]; rfl
      · rw [if_neg q]; exact he.2 y (by omega)
theorem t_ao_s (hx : HX X L9 xs) (hN : clN sh) {cc : Nat} {n w s : Nat} (hV : clV sh n w) (hn2 : n ≤ 80) (hs : I 15 1 = s) (hw : I 15 2 = w) (hsw : (s ≤ 6 ∧ w = 1) ∨ (s = 7 ∧ w = 2)) {ni no : Nat} {fi dt : Nat → Nat} {ot : Nat → Nat → Nat} (hT : clT sh cc (2 ^ (s - ni))) (hcc : cc = 2 ^ s) (hnt : NT I n s ni no fi dt ot) (hi9 : I 24 2 = ni) (hi3 : I 24 3 = ((2 ^ (s - ni) : Nat) : Int)) (hc6 : ∀ c, c < 2 ^ ni → c < 64) (hfk : FK I J w s ni dt ot no) {k : Nat} (hk : k < n) (hm : ∀ y, y < 2 ^ (s - ni) → I 42 y = bz (al1 J w s ni k y)) {r : Int} (hr : r = bz (!anyB (ivP J w s ni dt k) (2 ^ s))) (hret : P (some (.int (Int32.ofInt (r)))) (hp sh I J)) : ∀ (d c : Nat), c + d = 2 ^ s → (∀ e, e < c → ivP J w s ni dt k e = false) → LXf TT cl6 X mi_T_isAlwaysOne (40 + 6) (1000 + 200 * 6) D P PX kc ks 60 [(2, .int (Int32.ofInt ((c : Nat) : Int))), (0, .ref 24), (1, .int (Int32.ofInt ((k : Nat) : Int)))] [] (hp sh I J) := by
  have hs7 : s ≤ 7 := by omega
  have hnis := hnt.2.1
  have hS128 : 2 ^ (s - ni) ≤ 128 := pow2_7 (by omega)
  have hC128 : 2 ^ s ≤ 128 := pow2_7 (by omega)
  intro d
  induction d with
  | zero =>
    intro c hd hg
    obtain rfl : c = 2 ^ s := by omega
    have hr1 : r = 1 := by rw [hr, anyB_f.mpr hg]; rfl
    subst hr1
    refine lf_iload_n d_T_isAlwaysOne_60 rfl rfl ?_
    refine lf_aload_n d_T_isAlwaysOne_61 rfl rfl rfl ?_
    refine gi_getr s_T_isAlwaysOne_62 (c_24 hT) rfl ?_
    refine gi_len d_T_isAlwaysOne_65 (c_36 hT) ?_
    refine gi_icmp_ge d_T_isAlwaysOne_66 (tgt := 138) (by decide) (by omega) (fun hb66 => ?_) (fun hb66 => False.elim (by omega))
    refine lf_iconst d_T_isAlwaysOne_138 (v := Int32.ofInt ((1 : Nat) : Int)) rfl ?_
    exact lf_ireturn d_T_isAlwaysOne_139 rfl rfl hret
  | succ d ih =>
    intro c hd hg
    have hcS : c < 2 ^ s := by omega
    have hcm := hc6 (c % 2 ^ ni) (Nat.mod_lt _ (Nat.two_pow_pos ni))
    have hfc := hfk.2 c hcS
    have hnl : nxt J w s ni dt c < 2 ^ (s - ni) := nxt_lt
    have hmn := hm _ hnl
    have hb2 := bn_lt (hbit J w s k c)
    have hbr := bz_r (al1 J w s ni k (nxt J w s ni dt c))
    have hp2 := Nat.two_pow_pos ni
    have hn128 : 2 ^ ni ≤ 128 := pow2_7 (by omega)
    have k132 : ivP J w s ni dt k c = false → LXf TT cl6 X mi_T_isAlwaysOne (40 + 6) (1000 + 200 * 6) D P PX kc ks 132 [(2, .int (Int32.ofInt ((c : Nat) : Int))), (0, .ref 24), (1, .int (Int32.ofInt ((k : Nat) : Int)))] [] (hp sh I J) := by
      intro h
      refine gi_iincN d_T_isAlwaysOne_132 rfl (by decide +kernel) (L2 := [(2, _), (0, _), (1, _)]) rfl ?_
      refine lf_goto d_T_isAlwaysOne_135 (tgt := 60) (by decide) ?_
      refine ih (c + 1) (by omega) (fun e he => ?_)
      rcases Nat.lt_or_ge e c with q | q
      · exact hg e q
      · rw [show e = c by omega]; exact h
    refine lf_iload_n d_T_isAlwaysOne_60 rfl rfl ?_
    refine lf_aload_n d_T_isAlwaysOne_61 rfl rfl rfl ?_
    refine gi_getr s_T_isAlwaysOne_62 (c_24 hT) rfl ?_
    refine gi_len d_T_isAlwaysOne_65 (c_36 hT) ?_
    refine gi_icmp_ge d_T_isAlwaysOne_66 (tgt := 138) (by decide) (by omega) (fun hb66 => False.elim (by omega)) (fun hb66 => ?_)
    refine lf_aload_n d_T_isAlwaysOne_69 rfl rfl rfl ?_
    refine gi_getr s_T_isAlwaysOne_70 (c_24 hT) rfl ?_
    refine lf_iload_n d_T_isAlwaysOne_73 rfl rfl ?_
    refine lf_iconst d_T_isAlwaysOne_74 (v := Int32.ofInt ((1 : Nat) : Int)) rfl ?_
    refine lf_aload_n d_T_isAlwaysOne_75 rfl rfl rfl ?_
    refine gi_geti s_T_isAlwaysOne_76 (c_24 hT) rfl ?_
    refine gi_top hi9 ?_
    refine gi_ishlN (a := 1) (s := ni) d_T_isAlwaysOne_79 (by omega) ?_
    refine gi_top (show ((1 * 2 ^ ni : Nat) : Int) = ((2 ^ ni : Nat) : Int) from by rw [Nat.one_mul]) ?_
    refine lf_iconst d_T_isAlwaysOne_80 (v := Int32.ofInt ((1 : Nat) : Int)) rfl ?_
    refine gi_isubN (a := (2 ^ ni)) (b := 1) d_T_isAlwaysOne_81 (by omega) ?_
    refine gi_iandN (a := c) (b := ((2 ^ ni) - 1)) d_T_isAlwaysOne_82 ?_
    refine gi_top (show ((c &&& (2 ^ ni - 1) : Nat) : Int) = ((c % 2 ^ ni : Nat) : Int) from congrArg (fun z : Nat => (z : Int)) (Nat.and_two_pow_sub_one_eq_mod c ni)) ?_
    refine gw_callP s_T_isAlwaysOne_83 (v_areKeptInputs hx hV (c := c % 2 ^ ni) hcm) (S := []) rfl rfl (gcR_2 (c_15 hV)) (by decide) (by decide +kernel) (Nat.le_of_ble_eq_true rfl) ?_
    refine lf_istore_n d_T_isAlwaysOne_86 rfl (by decide +kernel) (L2 := [(3, _), (2, _), (0, _), (1, _)]) rfl ?_
    refine lf_aload_n d_T_isAlwaysOne_87 rfl rfl rfl ?_
    refine gi_getr s_T_isAlwaysOne_88 (c_24 hT) rfl ?_
    refine lf_iload_n d_T_isAlwaysOne_91 rfl rfl ?_
    refine gw_callP s_T_isAlwaysOne_92 (m_numberAtN hx (c_36 hT) (by omega)) (S := []) rfl rfl gcR_4 (by decide) (by decide +kernel) (Nat.le_of_ble_eq_true rfl) ?_
    refine gi_top hfc ?_
    refine lf_sipush d_T_isAlwaysOne_95 (v := Int32.ofInt ((255 : Nat) : Int)) (by decide +kernel) ?_
    refine gi_iandN (a := (fol J w s ni dt ot no c)) (b := 255) d_T_isAlwaysOne_98 ?_
    refine gi_top (show ((fol J w s ni dt ot no c &&& 255 : Nat) : Int) = ((nxt J w s ni dt c : Nat) : Int) from congrArg (fun z : Nat => (z : Int)) (fol_n hs7)) ?_
    refine lf_istore d_T_isAlwaysOne_99 (by decide +kernel) (L2 := [(4, _), (3, _), (2, _), (0, _), (1, _)]) rfl ?_
    refine lf_iload_n d_T_isAlwaysOne_101 rfl rfl ?_
    refine gb_if_eq d_T_isAlwaysOne_102 (tgt := 132) (by decide) (fun hb102 => ?_) (fun hb102 => ?_)
    · refine lf_sub [2, 3, 4] rfl ?_
      refine k132 ?_
      unfold ivP
      first
        | (have h9 : KP J (c % 2 ^ ni) = false := by
             cases z : KP J (c % 2 ^ ni) with
             | false => rfl
             | true => exact absurd z hb102
           rw [h9]; rfl)
        | (have h9 : al1 J w s ni k (nxt J w s ni dt c) = true := by
             cases z : al1 J w s ni k (nxt J w s ni dt c) with
             | true => rfl
             | false => exact absurd (by rw [z]; rfl) hb114
           rw [h9, Bool.not_true, Bool.and_false, Bool.false_and])
        | (have h9 : hbit J w s k c = false := by
             cases z : hbit J w s k c with
             | false => rfl
             | true => exact absurd (by rw [z]; rfl) hb127
           rw [h9, Bool.and_false])
    · refine lf_aload_n d_T_isAlwaysOne_105 rfl rfl rfl ?_
      refine gi_getr s_T_isAlwaysOne_106 (c_24 hT) rfl ?_
      refine lf_iload d_T_isAlwaysOne_109 rfl ?_
      refine gw_callP s_T_isAlwaysOne_111 (m_numberAtN hx (c_42 hT) (by omega)) (S := []) rfl rfl gcR_4 (by decide) (by decide +kernel) (Nat.le_of_ble_eq_true rfl) ?_
      refine gi_top hmn ?_
      refine gi_if_ne d_T_isAlwaysOne_114 (tgt := 132) (by decide) (by omega) (fun hb114 => ?_) (fun hb114 => ?_)
      · refine lf_sub [2, 3, 4] rfl ?_
        refine k132 ?_
        unfold ivP
        first
          | (have h9 : KP J (c % 2 ^ ni) = false := by
               cases z : KP J (c % 2 ^ ni) with
               | false => rfl
               | true => exact absurd z hb102
             rw [h9]; rfl)
          | (have h9 : al1 J w s ni k (nxt J w s ni dt c) = true := by
               cases z : al1 J w s ni k (nxt J w s ni dt c) with
               | true => rfl
               | false => exact absurd (by rw [z]; rfl) hb114
             rw [h9, Bool.not_true, Bool.and_false, Bool.false_and])
          | (have h9 : hbit J w s k c = false := by
               cases z : hbit J w s k c with
               | false => rfl
               | true => exact absurd (by rw [z]; rfl) hb127
             rw [h9, Bool.and_false])
      · refine lf_aload_n d_T_isAlwaysOne_117 rfl rfl rfl ?_
        refine gi_getr s_T_isAlwaysOne_118 (c_24 hT) rfl ?_
        refine lf_iload_n d_T_isAlwaysOne_121 rfl rfl ?_
        refine lf_iload_n d_T_isAlwaysOne_122 rfl rfl ?_
        refine gw_callP s_T_isAlwaysOne_123 (v_bitAtChoice hx hV hs hsw hn2 hw hk) (S := []) rfl rfl (gcR_2 (c_15 hV)) (by decide) (by decide +kernel) (Nat.le_of_ble_eq_true rfl) ?_
        refine gi_top (bz_n (hbit J w s k c)) ?_
        refine lf_iconst d_T_isAlwaysOne_126 (v := Int32.ofInt ((1 : Nat) : Int)) rfl ?_
        refine gi_icmp_ne d_T_isAlwaysOne_127 (tgt := 132) (by decide) (by omega) (fun hb127 => ?_) (fun hb127 => ?_)
        · refine lf_sub [2, 3, 4] rfl ?_
          refine k132 ?_
          unfold ivP
          first
            | (have h9 : KP J (c % 2 ^ ni) = false := by
                 cases z : KP J (c % 2 ^ ni) with
                 | false => rfl
                 | true => exact absurd z hb102
               rw [h9]; rfl)
            | (have h9 : al1 J w s ni k (nxt J w s ni dt c) = true := by
                 cases z : al1 J w s ni k (nxt J w s ni dt c) with
                 | true => rfl
                 | false => exact absurd (by rw [z]; rfl) hb114
               rw [h9, Bool.not_true, Bool.and_false, Bool.false_and])
            | (have h9 : hbit J w s k c = false := by
                 cases z : hbit J w s k c with
                 | false => rfl
                 | true => exact absurd (by rw [z]; rfl) hb127
               rw [h9, Bool.and_false])
        · refine lf_iconst d_T_isAlwaysOne_130 (v := Int32.ofInt ((0 : Nat) : Int)) rfl ?_
          have hr0 : r = 0 := by
            have h1 : KP J (c % 2 ^ ni) = true := hb102
            have h2 : al1 J w s ni k (nxt J w s ni dt c) = false := by
              cases z : al1 J w s ni k (nxt J w s ni dt c) with
              | false => rfl
              | true => rw [z] at hb114; exact absurd hb114 (by decide)
            have h3 : hbit J w s k c = true := by
              cases z : hbit J w s k c with
              | true => rfl
              | false => rw [z] at hb127; exact absurd hb127 (by decide)
            rw [hr, anyB_t.mpr ⟨c, hcS, by unfold ivP; rw [h1, h2, h3]; rfl⟩]; rfl
          subst hr0
          exact lf_ireturn d_T_isAlwaysOne_131 rfl rfl hret
theorem t_isAlwaysOne (hx : HX X L9 xs) (hN : clN sh) {cc : Nat} {n w s : Nat} (hV : clV sh n w) (hn2 : n ≤ 80) (hs : I 15 1 = s) (hw : I 15 2 = w) (hsw : (s ≤ 6 ∧ w = 1) ∨ (s = 7 ∧ w = 2)) {ni no : Nat} {fi dt : Nat → Nat} {ot : Nat → Nat → Nat} (hT : clT sh cc (2 ^ (s - ni))) (hcc : cc = 2 ^ s) (hnt : NT I n s ni no fi dt ot) (hi9 : I 24 2 = ni) (hi3 : I 24 3 = ((2 ^ (s - ni) : Nat) : Int)) (hc6 : ∀ c, c < 2 ^ ni → c < 64) (hfk : FK I J w s ni dt ot no) {k : Nat} (hk : k < n)  : EVi TT cl6 X mi_T_isAlwaysOne 6 [.ref 24, .int (Int32.ofInt ((k : Nat) : Int))] sh I J (fun r I1 J1 => r = bz (al1 J w s ni k (fst fi s ni) && !anyB (ivP J w s ni dt k) (2 ^ s)) ∧ (∀ a, ¬ a = 42 → I1 a = I a) ∧ J1 = J) := by
  have hs7 : s ≤ 7 := by omega
  have hnis := hnt.2.1
  have hS128 : 2 ^ (s - ni) ≤ 128 := pow2_7 (by omega)
  have hC128 : 2 ^ s ≤ 128 := pow2_7 (by omega)
  have hf := fst_lt (fi := fi) (s := s) (ni := ni) (fun j h1 h2 => (hnt.2.2.2.1 j h1 h2).2.2.2)
  refine gw_enter (hx_ok hx) (by decide +kernel) (Nat.le_of_ble_eq_true rfl) (L := [(0, _), (1, _)]) rfl ?_
  refine lf_aload_n d_T_isAlwaysOne_0 rfl rfl rfl ?_
  refine gw_callN s_T_isAlwaysOne_1 (t_fillFollow_k hx hT hfk.1) (S := []) rfl rfl (gcR_2 (c_24 hT)) (by decide) (by decide +kernel) (Nat.le_of_ble_eq_true rfl) ?_
  refine lf_iconst d_T_isAlwaysOne_4 (v := Int32.ofInt ((0 : Nat) : Int)) rfl ?_
  refine lf_istore_n d_T_isAlwaysOne_5 rfl (by decide +kernel) (L2 := [(2, _), (0, _), (1, _)]) rfl ?_
  refine t_ao_m hx hN hV hn2 hs hw hsw hT hcc hnt hi9 hi3 hc6 hfk hk (fun I1 he => ?_) (2 ^ (s - ni)) 0 I (by omega) ⟨fun _ _ => rfl, fun y hy => absurd hy (Nat.not_lt_zero y)⟩
  have hi31 : I1 24 3 = ((2 ^ (s - ni) : Nat) : Int) := by rw [he.1 24 (by decide)]; exact hi3
  have hi91 : I1 24 2 = (ni : Int) := by rw [he.1 24 (by decide)]; exact hi9
  have hs1 : I1 15 1 = (s : Int) := by rw [he.1 15 (by decide)]; exact hs
  have hw1 : I1 15 2 = (w : Int) := by rw [he.1 15 (by decide)]; exact hw
  have hnt1 : NT I1 n s ni no fi dt ot := by
    unfold NT at hnt ⊢
    rw [he.1 1 (by decide), he.1 12 (by decide), he.1 5 (by decide), he.1 7 (by decide), he.1 10 (by decide), he.1 9 (by decide)]
    exact hnt
  have hfk1 : FK I1 J w s ni dt ot no := FK_2 (by rw [he.1 24 (by decide)]) (fun q => by rw [he.1 36 (by decide)]) hfk
  have hmf := he.2 _ hf
  cases hal : al1 J w s ni k (fst fi s ni) with
  | true =>
    rw [hal] at hmf
    refine lf_aload_n d_T_isAlwaysOne_42 rfl rfl rfl ?_
    refine gi_getr s_T_isAlwaysOne_43 (c_24 hT) rfl ?_
    refine lf_aload_n d_T_isAlwaysOne_46 rfl rfl rfl ?_
    refine gw_callP s_T_isAlwaysOne_47 (t_firstState hx hN hT hV hn2 hs1 hw1 hsw hnt1 hi91) (S := [_]) rfl rfl (gcR_2 (c_24 hT)) (by decide) (by decide +kernel) (Nat.le_of_ble_eq_true rfl) ?_
    refine gw_callP s_T_isAlwaysOne_50 (m_numberAtN hx (c_42 hT) (by omega)) (S := []) rfl rfl gcR_4 (by decide) (by decide +kernel) (Nat.le_of_ble_eq_true rfl) ?_
    refine gi_top (show I1 42 (fst fi s ni) = ((1 : Nat) : Int) from hmf) ?_
    refine gi_if_ne d_T_isAlwaysOne_53 (tgt := 58) (by decide) (by omega) (fun hb53 => ?_) (fun hb53 => False.elim (by omega))
    refine lf_iconst d_T_isAlwaysOne_58 (v := Int32.ofInt ((0 : Nat) : Int)) rfl ?_
    refine lf_istore_n d_T_isAlwaysOne_59 rfl (by decide +kernel) (L2 := [(2, _), (0, _), (1, _)]) rfl ?_
    exact t_ao_s hx hN hV hn2 hs1 hw1 hsw hT hcc hnt1 hi91 hi31 hc6 hfk1 hk he.2 (r := bz (true && !anyB (ivP J w s ni dt k) (2 ^ s))) (by rw [Bool.true_and]) ⟨_, _, _, rfl, rfl, _, rfl, rfl, he.1, rfl⟩ (2 ^ s) 0 (by omega) (fun e h => absurd h (Nat.not_lt_zero e))
  | false =>
    rw [hal] at hmf
    refine lf_aload_n d_T_isAlwaysOne_42 rfl rfl rfl ?_
    refine gi_getr s_T_isAlwaysOne_43 (c_24 hT) rfl ?_
    refine lf_aload_n d_T_isAlwaysOne_46 rfl rfl rfl ?_
    refine gw_callP s_T_isAlwaysOne_47 (t_firstState hx hN hT hV hn2 hs1 hw1 hsw hnt1 hi91) (S := [_]) rfl rfl (gcR_2 (c_24 hT)) (by decide) (by decide +kernel) (Nat.le_of_ble_eq_true rfl) ?_
    refine gw_callP s_T_isAlwaysOne_50 (m_numberAtN hx (c_42 hT) (by omega)) (S := []) rfl rfl gcR_4 (by decide) (by decide +kernel) (Nat.le_of_ble_eq_true rfl) ?_
    refine gi_top (show I1 42 (fst fi s ni) = ((0 : Nat) : Int) from hmf) ?_
    refine gi_if_ne d_T_isAlwaysOne_53 (tgt := 58) (by decide) (by omega) (fun hb53 => False.elim (by omega)) (fun hb53 => ?_)
    refine lf_iconst d_T_isAlwaysOne_56 (v := Int32.ofInt ((0 : Nat) : Int)) rfl ?_
    refine gw_zret d_T_isAlwaysOne_57 rfl (by omega) ?_
    exact ⟨rfl, _, rfl, rfl, he.1, rfl⟩
end TT16
