section VT4
variable {X : XT} {L9 : Nat} {xs : Nat → Int32} {sh : sM} {I : mI} {J : mJ}

variable {D : mF} {P : Option Value → mF → Prop} {PX : String → mF → Prop} {kc ks : Nat}

def sumN (f : Nat → Nat) : Nat → Nat | 0 => 0 | n + 1 => sumN f n + f n
/-- bit i of the kept choices -/
def kbit (J : mJ) (i : Nat) : Bool := lb (J 29 (i / 64)) (i % 64)
theorem v_keptWith_l (hx : HX X L9 xs) {n w s : Nat} (hV : clV sh n w) (hn2 : n ≤ 80) (hs : I 15 1 = s) (hw : I 15 2 = w) (hsw : (s ≤ 6 ∧ w = 1) ∨ (s = 7 ∧ w = 2)) {k : Nat} (hk : k < n) (k36 : LXf TT cl6 X mi_V_keptWith (40 + 2) (1000 + 200 * 2) D P PX kc ks 36 [(3, .int (Int32.ofInt ((w : Nat) : Int))), (2, .int (Int32.ofInt ((sumN (fun u => cb (lb (J 29 u &&& J 26 (k * w + u))) 64) w : Nat) : Int))), (0, .ref 15), (1, .int (Int32.ofInt ((k : Nat) : Int)))] [] (hp sh I J)) : ∀ c u : Nat, u + c = w → LXf TT cl6 X mi_V_keptWith (40 + 2) (1000 + 200 * 2) D P PX kc ks 4 [(3, .int (Int32.ofInt ((u : Nat) : Int))), (2, .int (Int32.ofInt ((sumN (fun u => cb (lb (J 29 u &&& J 26 (k * w + u))) 64) u : Nat) : Int))), (0, .ref 15), (1, .int (Int32.ofInt ((k : Nat) : Int)))] [] (hp sh I J) := by
  have hw2 : w ≤ 2 := by omega
  intro c
  induction c with
  | zero =>
    intro u hu
    obtain rfl : u = w := by omega
    refine lf_iload_n d_V_keptWith_4 rfl rfl ?_
    refine lf_aload_n d_V_keptWith_5 rfl rfl rfl ?_
    refine gi_geti s_V_keptWith_6 (c_15 hV) rfl ?_
    refine gi_top hw ?_
    refine gi_icmp_ge d_V_keptWith_9 (tgt := 36) (by decide) (by omega) (fun hb9 => ?_) (fun hb9 => False.elim (by omega))
    exact k36
  | succ c ih =>
    intro u hu
    refine lf_iload_n d_V_keptWith_4 rfl rfl ?_
    refine lf_aload_n d_V_keptWith_5 rfl rfl rfl ?_
    refine gi_geti s_V_keptWith_6 (c_15 hV) rfl ?_
    refine gi_top hw ?_
    refine gi_icmp_ge d_V_keptWith_9 (tgt := 36) (by decide) (by omega) (fun hb9 => False.elim (by omega)) (fun hb9 => ?_)
    refine lf_iload_n d_V_keptWith_12 rfl rfl ?_
    refine lf_aload_n d_V_keptWith_13 rfl rfl rfl ?_
    refine lf_iload_n d_V_keptWith_14 rfl rfl ?_
    refine gw_callP s_V_keptWith_15 (v_keptWord hx hV hw2 (by omega)) (S := [_]) rfl rfl (gcR_2 (c_15 hV)) (by decide) (by decide +kernel) (Nat.le_of_ble_eq_true rfl) ?_
    refine lf_aload_n d_V_keptWith_18 rfl rfl rfl ?_
    refine lf_iload_n d_V_keptWith_19 rfl rfl ?_
    refine lf_iload_n d_V_keptWith_20 rfl rfl ?_
    refine gw_callP s_V_keptWith_21 (v_heldWord hx hV hn2 hw2 hw (by omega) (by omega)) (S := [_, _]) rfl rfl (gcR_2 (c_15 hV)) (by decide) (by decide +kernel) (Nat.le_of_ble_eq_true rfl) ?_
    refine lf_land d_V_keptWith_24 ?_
    refine gw_callP s_V_keptWith_25 (m_bitCount hx) (S := [_]) rfl rfl gcR_1 (by decide) (by decide +kernel) (Nat.le_of_ble_eq_true rfl) ?_
    refine gi_iaddN (a := (sumN (fun u => cb (lb (J 29 u &&& J 26 (k * w + u))) 64) u)) (b := (cb (lb (J 29 u &&& J 26 (k * w + u))) 64)) d_V_keptWith_28 ?_
    refine lf_istore_n d_V_keptWith_29 rfl (by decide +kernel) (L2 := [(2, _), (3, _), (0, _), (1, _)]) rfl ?_
    refine gi_iincN d_V_keptWith_30 rfl (by decide +kernel) (L2 := [(3, _), (2, _), (0, _), (1, _)]) rfl ?_
    refine lf_goto d_V_keptWith_33 (tgt := 4) (by decide) ?_
    exact ih (u + 1) (by omega)
theorem v_keptWith (hx : HX X L9 xs){n w s : Nat} (hV : clV sh n w) (hn2 : n ≤ 80) (hs : I 15 1 = s) (hw : I 15 2 = w) (hsw : (s ≤ 6 ∧ w = 1) ∨ (s = 7 ∧ w = 2)) {k : Nat} (hk : k < n) : EVp TT cl6 X mi_V_keptWith 2 [.ref 15, .int (Int32.ofInt ((k : Nat) : Int))] sh I J (.int (Int32.ofInt ((sumN (fun u => cb (lb (J 29 u &&& J 26 (k * w + u))) 64) w : Nat) : Int))) := by
  refine gw_enter (hx_ok hx) (by decide +kernel) (Nat.le_of_ble_eq_true rfl) (L := [(0, _), (1, _)]) rfl ?_
  refine lf_iconst d_V_keptWith_0 (v := Int32.ofInt ((0 : Nat) : Int)) rfl ?_
  refine lf_istore_n d_V_keptWith_1 rfl (by decide +kernel) (L2 := [(2, _), (0, _), (1, _)]) rfl ?_
  refine lf_iconst d_V_keptWith_2 (v := Int32.ofInt ((0 : Nat) : Int)) rfl ?_
  refine lf_istore_n d_V_keptWith_3 rfl (by decide +kernel) (L2 := [(3, _), (2, _), (0, _), (1, _)]) rfl ?_
  refine v_keptWith_l hx hV hn2 hs hw hsw hk ?_ w 0 (by omega)
  refine lf_iload_n d_V_keptWith_36 rfl rfl ?_
  refine gw_iret d_V_keptWith_37 rfl ?_
  exact ⟨rfl, rfl, rfl, rfl⟩
theorem v_keepAlso_l (hx : HX X L9 xs) {n w s : Nat} (hV : clV sh n w) (hn2 : n ≤ 80) (hs : I 15 1 = s) (hw : I 15 2 = w) (hsw : (s ≤ 6 ∧ w = 1) ∨ (s = 7 ∧ w = 2)) {k : Nat} (hk : k < n) (k68 : ∀ J1 : mJ, ((∀ a, ¬ a = 29 → ¬ a = 30 → J1 a = J a) ∧ (∀ v, v < w → J1 29 v = J 29 v &&& J 26 (k * w + v) ∧ J1 30 v = J 30 v ||| J 27 (k * w + v)) ∧ (∀ v, w ≤ v → J1 29 v = J 29 v ∧ J1 30 v = J 30 v)) → LXf TT cl6 X mi_V_keepAlso (40 + 3) (1000 + 200 * 3) D P PX kc ks 68 [(2, .int (Int32.ofInt ((w : Nat) : Int))), (0, .ref 15), (1, .int (Int32.ofInt ((k : Nat) : Int)))] [] (hp sh I J1)) : ∀ (c u : Nat) (J1 : mJ), u + c = w → ((∀ a, ¬ a = 29 → ¬ a = 30 → J1 a = J a) ∧ (∀ v, v < u → J1 29 v = J 29 v &&& J 26 (k * w + v) ∧ J1 30 v = J 30 v ||| J 27 (k * w + v)) ∧ (∀ v, u ≤ v → J1 29 v = J 29 v ∧ J1 30 v = J 30 v)) → LXf TT cl6 X mi_V_keepAlso (40 + 3) (1000 + 200 * 3) D P PX kc ks 2 [(2, .int (Int32.ofInt ((u : Nat) : Int))), (0, .ref 15), (1, .int (Int32.ofInt ((k : Nat) : Int)))] [] (hp sh I J1) := by
  have hw2 : w ≤ 2 := by omega
  intro c
  induction c with
  | zero =>
    intro u J1 hu hi
    obtain rfl : u = w := by omega
    refine lf_iload_n d_V_keepAlso_2 rfl rfl ?_
    refine lf_aload_n d_V_keepAlso_3 rfl rfl rfl ?_
    refine gi_geti s_V_keepAlso_4 (c_15 hV) rfl ?_
    refine gi_top hw ?_
    refine gi_icmp_ge d_V_keepAlso_7 (tgt := 68) (by decide) (by omega) (fun hb7 => ?_) (fun hb7 => False.elim (by omega))
    exact k68 J1 hi
  | succ c ih =>
    intro u J1 hu hi
    refine lf_iload_n d_V_keepAlso_2 rfl rfl ?_
    refine lf_aload_n d_V_keepAlso_3 rfl rfl rfl ?_
    refine gi_geti s_V_keepAlso_4 (c_15 hV) rfl ?_
    refine gi_top hw ?_
    refine gi_icmp_ge d_V_keepAlso_7 (tgt := 68) (by decide) (by omega) (fun hb7 => False.elim (by omega)) (fun hb7 => ?_)
    refine lf_aload_n d_V_keepAlso_10 rfl rfl rfl ?_
    refine gi_getr s_V_keepAlso_11 (c_15 hV) rfl ?_
    refine lf_iload_n d_V_keepAlso_14 rfl rfl ?_
    refine lf_aload_n d_V_keepAlso_15 rfl rfl rfl ?_
    refine lf_iload_n d_V_keepAlso_16 rfl rfl ?_
    refine gw_callP s_V_keepAlso_17 (v_keptWord hx hV hw2 (by omega)) (S := [_, _]) rfl rfl (gcR_2 (c_15 hV)) (by decide) (by decide +kernel) (Nat.le_of_ble_eq_true rfl) ?_
    refine lf_aload_n d_V_keepAlso_20 rfl rfl rfl ?_
    refine lf_iload_n d_V_keepAlso_21 rfl rfl ?_
    refine lf_iload_n d_V_keepAlso_22 rfl rfl ?_
    refine gw_callP s_V_keepAlso_23 (v_heldWord hx hV hn2 hw2 hw (by omega) (by omega)) (S := [_, _, _]) rfl rfl (gcR_2 (c_15 hV)) (by decide) (by decide +kernel) (Nat.le_of_ble_eq_true rfl) ?_
    refine lf_land d_V_keepAlso_26 ?_
    refine gw_callV s_V_keepAlso_27 (m_putWordN hx (c_29 hV) (by omega)) (S := []) rfl rfl gcR_4 (by decide) (by decide +kernel) (Nat.le_of_ble_eq_true rfl) (fun I J w27 => ?_)
    obtain ⟨rfl, rfl⟩ := w27
    refine lf_aload_n d_V_keepAlso_30 rfl rfl rfl ?_
    refine gi_getr s_V_keepAlso_31 (c_15 hV) rfl ?_
    refine lf_iload_n d_V_keepAlso_34 rfl rfl ?_
    refine lf_aload_n d_V_keepAlso_35 rfl rfl rfl ?_
    refine gi_getr s_V_keepAlso_36 (c_15 hV) rfl ?_
    refine lf_iload_n d_V_keepAlso_39 rfl rfl ?_
    refine gw_callP s_V_keepAlso_40 (m_wordAtN hx (c_30 hV) (by omega)) (S := [_, _]) rfl rfl gcR_4 (by decide) (by decide +kernel) (Nat.le_of_ble_eq_true rfl) ?_
    refine lf_aload_n d_V_keepAlso_43 rfl rfl rfl ?_
    refine gi_getr s_V_keepAlso_44 (c_15 hV) rfl ?_
    refine lf_iload_n d_V_keepAlso_47 rfl rfl ?_
    refine lf_aload_n d_V_keepAlso_48 rfl rfl rfl ?_
    refine gi_geti s_V_keepAlso_49 (c_15 hV) rfl ?_
    refine gi_top hw ?_
    refine gi_imulN (a := k) (b := w) d_V_keepAlso_52 ?_
    refine lf_iload_n d_V_keepAlso_53 rfl rfl ?_
    refine gi_iaddN (a := (k * w)) (b := u) d_V_keepAlso_54 ?_
    refine gw_callP s_V_keepAlso_55 (m_wordAtN hx (c_27 hV) ⟨kw_lt hk (by omega), nw_le hn2 (by omega)⟩) (S := [_, _, _]) rfl rfl gcR_4 (by decide) (by decide +kernel) (Nat.le_of_ble_eq_true rfl) ?_
    refine lf_lor d_V_keepAlso_58 ?_
    refine gw_callV s_V_keepAlso_59 (m_putWordN hx (c_30 hV) (by omega)) (S := []) rfl rfl gcR_4 (by decide) (by decide +kernel) (Nat.le_of_ble_eq_true rfl) (fun I J w59 => ?_)
    obtain ⟨rfl, rfl⟩ := w59
    refine gi_iincN d_V_keepAlso_62 rfl (by decide +kernel) (L2 := [(2, _), (0, _), (1, _)]) rfl ?_
    refine lf_goto d_V_keepAlso_65 (tgt := 2) (by decide) ?_
    have g := hi.2.2 u (Nat.le_refl u)
    refine ih (u + 1) _ (by omega) ⟨fun a a1 a2 => ?_, fun v hv => ?_, fun v hv => ?_⟩
    · rw [jpt_o a2, jpt_o a1]; exact hi.1 a a1 a2
    · rcases Nat.lt_or_ge v u with q | q
      · have g2 := hi.2.1 v q
        rw [jpt_at (by omega), jpt_at (by omega), jpt_at (by omega), jpt_at (by omega)]
        exact g2
      · obtain rfl : v = u := by omega
        refine ⟨?_, ?_⟩
        · rw [jpt_at (by omega), jpt_e, g.1, hi.1 26 (by decide) (by decide)]
        · rw [jpt_e, jpt_at (by omega), jpt_at (by omega), g.2, hi.1 27 (by decide) (by decide)]
    · have g2 := hi.2.2 v (by omega)
      rw [jpt_at (by omega), jpt_at (by omega), jpt_at (by omega), jpt_at (by omega)]
      exact g2
theorem v_keepIn_l (hx : HX X L9 xs) (hN : clN sh) {n w s : Nat} (hV : clV sh n w) (hn2 : n ≤ 80) (hs : I 15 1 = s) (hw : I 15 2 = w) (hsw : (s ≤ 6 ∧ w = 1) ∨ (s = 7 ∧ w = 2)) {k m : Nat} (hm : I 1 12 = m) (hm6 : m ≤ 6) (k133 : ∀ J1 : mJ, ((∀ a, ¬ a = 15 → J1 a = J a) ∧ (∀ q, ¬ q = 11 → J1 15 q = J 15 q) ∧ (∀ i, i < 64 → lb (J1 15 11) i = (decide (i < 2 ^ m) && kbit J (mir s i)))) → LXf TT cl6 X mi_V_keepAlso (40 + 3) (1000 + 200 * 3) D P PX kc ks 133 [(2, .int (Int32.ofInt ((2 ^ m : Nat) : Int))), (0, .ref 15), (1, .int (Int32.ofInt ((k : Nat) : Int)))] [] (hp sh I J1)) : ∀ (c u : Nat) (J1 : mJ), u + c = 2 ^ m → ((∀ a, ¬ a = 15 → J1 a = J a) ∧ (∀ q, ¬ q = 11 → J1 15 q = J 15 q) ∧ (∀ i, i < 64 → lb (J1 15 11) i = (decide (i < u) && kbit J (mir s i)))) → LXf TT cl6 X mi_V_keepAlso (40 + 3) (1000 + 200 * 3) D P PX kc ks 94 [(2, .int (Int32.ofInt ((u : Nat) : Int))), (0, .ref 15), (1, .int (Int32.ofInt ((k : Nat) : Int)))] [] (hp sh I J1) := by
  have h64 : 2 ^ m ≤ 64 := Nat.pow_le_pow_right (n := 2) (by decide) hm6
  intro c
  induction c with
  | zero =>
    intro u J1 hu hi
    have hu2 : u = 2 ^ m := by omega
    refine lf_iload_n d_V_keepAlso_94 rfl rfl ?_
    refine lf_iconst d_V_keepAlso_95 (v := Int32.ofInt ((1 : Nat) : Int)) rfl ?_
    refine lf_aload_n d_V_keepAlso_96 rfl rfl rfl ?_
    refine gi_getr s_V_keepAlso_97 (c_15 hV) rfl ?_
    refine gi_geti s_V_keepAlso_100 (c_1 hN) rfl ?_
    refine gi_top hm ?_
    refine gi_ishlN (a := 1) (s := m) d_V_keepAlso_103 (by omega) ?_
    refine gi_top (show ((1 * 2 ^ m : Nat) : Int) = ((2 ^ m : Nat) : Int) from by rw [Nat.one_mul]) ?_
    refine gi_icmp_ge d_V_keepAlso_104 (tgt := 133) (by decide) (by omega) (fun hb104 => ?_) (fun hb104 => False.elim (by omega))
    rw [hu2] at hi ⊢
    exact k133 J1 hi
  | succ c ih =>
    intro u J1 hu hi
    have hkb : ∀ i, kbit J1 i = kbit J i := fun i => by unfold kbit; rw [hi.1 29 (by decide)]
    refine lf_iload_n d_V_keepAlso_94 rfl rfl ?_
    refine lf_iconst d_V_keepAlso_95 (v := Int32.ofInt ((1 : Nat) : Int)) rfl ?_
    refine lf_aload_n d_V_keepAlso_96 rfl rfl rfl ?_
    refine gi_getr s_V_keepAlso_97 (c_15 hV) rfl ?_
    refine gi_geti s_V_keepAlso_100 (c_1 hN) rfl ?_
    refine gi_top hm ?_
    refine gi_ishlN (a := 1) (s := m) d_V_keepAlso_103 (by omega) ?_
    refine gi_top (show ((1 * 2 ^ m : Nat) : Int) = ((2 ^ m : Nat) : Int) from by rw [Nat.one_mul]) ?_
    refine gi_icmp_ge d_V_keepAlso_104 (tgt := 133) (by decide) (by omega) (fun hb104 => False.elim (by omega)) (fun hb104 => ?_)
    refine lf_aload_n d_V_keepAlso_107 rfl rfl rfl ?_
    refine lf_iload_n d_V_keepAlso_108 rfl rfl ?_
    refine gw_callP s_V_keepAlso_109 (v_isKept hx hV hs hsw) (S := []) rfl rfl (gcR_2 (c_15 hV)) (by decide) (by decide +kernel) (Nat.le_of_ble_eq_true rfl) ?_
    refine gb_if_eq d_V_keepAlso_112 (tgt := 127) (by decide) (fun hb112 => ?_) (fun hb112 => ?_)
    · refine gi_iincN d_V_keepAlso_127 rfl (by decide +kernel) (L2 := [(2, _), (0, _), (1, _)]) rfl ?_
      refine lf_goto d_V_keepAlso_130 (tgt := 94) (by decide) ?_
      have hk9 : kbit J (mir s u) = lb (J1 29 (mir s u / 64)) (mir s u % 64) := by rw [← hkb]; rfl
      first
        | (refine ih (u + 1) _ (by omega) ⟨fun a a1 => ?_, fun q q1 => ?_, fun i hi2 => ?_⟩
           · rw [jpt_o a1]; exact hi.1 a a1
           · rw [jpt_s, if_neg q1]; exact hi.2.1 q q1
           · rw [jpt_e, lb_or, lb_shl (by omega) hi2, hi.2.2 i hi2]
             rw [show lb (Int64.ofNat ((1 : Fin 2) : Nat)) (i - u) = decide (i - u = 0) from l1_bit _ (by omega)]
             by_cases q1 : i < u
             · rw [decide_eq_true q1, decide_eq_true (show i < u + 1 by omega), decide_eq_false (show ¬ u ≤ i by omega)]
               simp
             · by_cases q2 : i = u
               · subst q2
                 rw [hk9, hb112, decide_eq_true (show i < i + 1 by omega)]
                 simp
               · rw [decide_eq_false q1, decide_eq_false (show ¬ i < u + 1 by omega), decide_eq_false (show ¬ i - u = 0 by omega)]
                 simp)
        | (refine ih (u + 1) J1 (by omega) ⟨hi.1, hi.2.1, fun i hi2 => ?_⟩
           rw [hi.2.2 i hi2]
           by_cases q1 : i < u
           · rw [decide_eq_true q1, decide_eq_true (show i < u + 1 by omega)]
           · by_cases q2 : i = u
             · subst q2
               have : kbit J (mir s i) = false := by rw [hk9]; cases h9 : lb (J1 29 (mir s i / 64)) (mir s i % 64) with
                 | false => rfl
                 | true => exact absurd h9 hb112
               rw [this]; simp
             · rw [decide_eq_false q1, decide_eq_false (show ¬ i < u + 1 by omega)])
    · refine lf_aload_n d_V_keepAlso_115 rfl rfl rfl ?_
      refine lf_dup d_V_keepAlso_116 rfl ?_
      refine gi_getl s_V_keepAlso_117 (c_15 hV) rfl ?_
      refine lf_lconst d_V_keepAlso_120 rfl ?_
      refine lf_iload_n d_V_keepAlso_121 rfl rfl ?_
      refine lf_lshl d_V_keepAlso_122 ?_
      refine lf_lor d_V_keepAlso_123 ?_
      refine gi_putl s_V_keepAlso_124 (c_15 hV) rfl ?_
      refine gi_iincN d_V_keepAlso_127 rfl (by decide +kernel) (L2 := [(2, _), (0, _), (1, _)]) rfl ?_
      refine lf_goto d_V_keepAlso_130 (tgt := 94) (by decide) ?_
      have hk9 : kbit J (mir s u) = lb (J1 29 (mir s u / 64)) (mir s u % 64) := by rw [← hkb]; rfl
      first
        | (refine ih (u + 1) _ (by omega) ⟨fun a a1 => ?_, fun q q1 => ?_, fun i hi2 => ?_⟩
           · rw [jpt_o a1]; exact hi.1 a a1
           · rw [jpt_s, if_neg q1]; exact hi.2.1 q q1
           · rw [jpt_e, lb_or, lb_shl (by omega) hi2, hi.2.2 i hi2]
             rw [show lb (Int64.ofNat ((1 : Fin 2) : Nat)) (i - u) = decide (i - u = 0) from l1_bit _ (by omega)]
             by_cases q1 : i < u
             · rw [decide_eq_true q1, decide_eq_true (show i < u + 1 by omega), decide_eq_false (show ¬ u ≤ i by omega)]
               simp
             · by_cases q2 : i = u
               · subst q2
                 rw [hk9, hb112, decide_eq_true (show i < i + 1 by omega)]
                 simp
               · rw [decide_eq_false q1, decide_eq_false (show ¬ i < u + 1 by omega), decide_eq_false (show ¬ i - u = 0 by omega)]
                 simp)
        | (refine ih (u + 1) J1 (by omega) ⟨hi.1, hi.2.1, fun i hi2 => ?_⟩
           rw [hi.2.2 i hi2]
           by_cases q1 : i < u
           · rw [decide_eq_true q1, decide_eq_true (show i < u + 1 by omega)]
           · by_cases q2 : i = u
             · subst q2
               have : kbit J (mir s i) = false := by rw [hk9]; cases h9 : lb (J1 29 (mir s i / 64)) (mir s i % 64) with
                 | false => rfl
                 | true => exact absurd h9 hb112
               rw [this]; simp
             · rw [decide_eq_false q1, decide_eq_false (show ¬ i < u + 1 by omega)])
theorem v_keepAlso (hx : HX X L9 xs) (hN : clN sh) {n w s : Nat} (hV : clV sh n w) (hn2 : n ≤ 80) (hs : I 15 1 = s) (hw : I 15 2 = w) (hsw : (s ≤ 6 ∧ w = 1) ∨ (s = 7 ∧ w = 2)) {k m : Nat} (hk : k < n) (hm : I 1 12 = m) (hm6 : m ≤ 6) : EVv TT cl6 X mi_V_keepAlso 3 [.ref 15, .int (Int32.ofInt ((k : Nat) : Int))] sh I J (fun I1 J1 => (∀ a q, ¬ (a = 15 ∧ (q = 9 ∨ q = 10)) → I1 a q = I a q) ∧ I1 15 9 = I 15 9 + 1 ∧ I1 15 10 = ((sumN (fun u => cb (lb (J1 29 u &&& J 26 (k * w + u))) 64) w : Nat) : Int) ∧ (∀ a, ¬ a = 29 → ¬ a = 30 → ¬ a = 15 → J1 a = J a) ∧ (∀ q, ¬ q = 11 → J1 15 q = J 15 q) ∧ (∀ u, u < w → J1 29 u = J 29 u &&& J 26 (k * w + u) ∧ J1 30 u = J 30 u ||| J 27 (k * w + u)) ∧ (∀ i, i < 64 → lb (J1 15 11) i = (decide (i < 2 ^ m) && kbit J1 (mir s i)))) := by
  refine gw_enter (hx_ok hx) (by decide +kernel) (Nat.le_of_ble_eq_true rfl) (L := [(0, _), (1, _)]) rfl ?_
  refine lf_iconst d_V_keepAlso_0 (v := Int32.ofInt ((0 : Nat) : Int)) rfl ?_
  refine lf_istore_n d_V_keepAlso_1 rfl (by decide +kernel) (L2 := [(2, _), (0, _), (1, _)]) rfl ?_
  refine v_keepAlso_l hx hV hn2 hs hw hsw hk (fun J1 h1 => ?_) w 0 J (by omega) ⟨fun _ _ _ => rfl, fun v hv => absurd hv (Nat.not_lt_zero v), fun v _ => ⟨rfl, rfl⟩⟩
  have e26 : ∀ u, J1 26 u = J 26 u := fun u => by rw [h1.1 26 (by decide) (by decide)]
  refine lf_aload_n d_V_keepAlso_68 rfl rfl rfl ?_
  refine lf_dup d_V_keepAlso_69 rfl ?_
  refine gi_geti s_V_keepAlso_70 (c_15 hV) rfl ?_
  refine lf_iconst d_V_keepAlso_73 (v := Int32.ofInt ((1 : Nat) : Int)) rfl ?_
  refine gi_iadd d_V_keepAlso_74 ?_
  refine gi_puti s_V_keepAlso_75 (c_15 hV) rfl ?_
  refine lf_aload_n d_V_keepAlso_78 rfl rfl rfl ?_
  refine lf_aload_n d_V_keepAlso_79 rfl rfl rfl ?_
  refine lf_iload_n d_V_keepAlso_80 rfl rfl ?_
  refine gw_callP s_V_keepAlso_81 (v_keptWith (J := J1) hx hV hn2 (I := ipt I 15 9 (I 15 9 + 1)) hs hw hsw hk) (S := [_]) rfl rfl (gcR_2 (c_15 hV)) (by decide) (by decide +kernel) (Nat.le_of_ble_eq_true rfl) ?_
  refine gi_puti s_V_keepAlso_84 (c_15 hV) rfl ?_
  refine lf_aload_n d_V_keepAlso_87 rfl rfl rfl ?_
  refine lf_lconst d_V_keepAlso_88 rfl ?_
  refine gi_putl s_V_keepAlso_89 (c_15 hV) rfl ?_
  refine lf_iconst d_V_keepAlso_92 (v := Int32.ofInt ((0 : Nat) : Int)) rfl ?_
  refine lf_istore_n d_V_keepAlso_93 rfl (by decide +kernel) (L2 := [(2, _), (0, _), (1, _)]) rfl ?_
  refine v_keepIn_l (I := ipt (ipt I 15 9 _) 15 10 _) (J := J1) hx hN hV hn2 (s := s) hs hw hsw (k := k) hm hm6 (fun J2 h2 => ?_) (2 ^ m) 0 _ (by omega) ⟨fun a ha => jpt_o ha, fun q hq => by rw [jpt_s, if_neg hq], fun i hi => ?_⟩
  · refine gw_ret d_V_keepAlso_133 rfl ?_
    refine ⟨rfl, rfl, fun a q hq => ?_, ?_, ?_, fun a a1 a2 a3 => ?_, fun q hq => ?_, fun u hu => ?_, fun i hi => ?_⟩
    · by_cases e : a = 15
      · subst e
        rw [ipt_s, if_neg (by omega), ipt_s, if_neg (by omega)]
      · rw [ipt_o e, ipt_o e]
    · rfl
    · rw [ipt_e]
      refine congrArg (fun z : Nat => (z : Int)) ?_
      rw [h2.1 29 (by decide)]
      show sumN (fun u => cb (lb (J1 29 u &&& J1 26 (k * w + u))) 64) w = _
      rw [h1.1 26 (by decide) (by decide)]
    · rw [h2.1 a a3]; exact h1.1 a a1 a2
    · rw [h2.2.1 q hq, h1.1 15 (by decide) (by decide)]
    · rw [h2.1 29 (by decide), h2.1 30 (by decide)]; exact h1.2.1 u hu
    · rw [h2.2.2 i hi]
      have e9 : ∀ j, kbit J2 j = kbit J1 j := fun j => by unfold kbit; rw [h2.1 29 (by decide)]
      rw [e9]
  · rw [jpt_e, decide_eq_false (Nat.not_lt_zero i)]
    exact lb_0 i
end VT4
