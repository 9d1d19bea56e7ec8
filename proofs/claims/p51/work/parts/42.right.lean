section ST3
variable {X : XT} {L9 : Nat} {xs : Nat → Int32} {sh : sM} {I : mI} {J : mJ}

variable {D : mF} {P : Option Value → mF → Prop} {PX : String → mF → Prop} {kc ks : Nat}

theorem s_isRight_l1 (hN : clN sh) (hx : HX X L9 xs) (hS : clS sh) {n w s : Nat} (hV : clV sh n w) (hn2 : n ≤ 80) (hs : I 15 1 = s) (hw : I 15 2 = w) (hsw : (s ≤ 6 ∧ w = 1) ∨ (s = 7 ∧ w = 2)) (hn : I 1 11 = n) (ht : ∀ k, k < 80 → I 35 k = ((2 * k : Nat) : Int)) {no : Nat} {o0 o1 : Nat → Nat} (hno : I 10 0 = no) (hno4 : no ≤ 4) (ho : ∀ j, j < no → I 9 (0 * 4 + j) = o0 j ∧ I 9 (1 * 4 + j) = o1 j ∧ o0 j < n ∧ o1 j < n) (hkz : ∀ i, 2 ^ s ≤ i → i < 64 * w → kbit J i = false) {v2 : Int32} (k58 : ∀ L : List (Nat × Value), mj_get L 0 = some (.ref 17) → LXf TT cl6 X mi_S_isRight (40 + 5) (1000 + 200 * 5) D P PX kc ks 58 [(1, .int (Int32.ofInt ((n : Nat) : Int))), (0, .ref 17)] [] (hp sh I J)) : ∀ d k : Nat, k + d = n → LXf TT cl6 X mi_S_isRight (40 + 5) (1000 + 200 * 5) D P PX kc ks 2 [(1, .int (Int32.ofInt ((k : Nat) : Int))), (0, .ref 17)] [] (hp sh I J) := by
  intro d
  induction d with
  | zero =>
    intro k hk
    obtain rfl : k = n := by omega
    refine lf_iload_n d_S_isRight_2 rfl rfl ?_
    refine lf_aload_n d_S_isRight_3 rfl rfl rfl ?_
    refine gi_getr s_S_isRight_4 (c_17 hS) rfl ?_
    refine gi_geti s_S_isRight_7 (c_1 hN) rfl ?_
    refine gi_top hn ?_
    refine gi_icmp_ge d_S_isRight_10 (tgt := 58) (by decide) (by omega) (fun hb10 => ?_) (fun hb10 => False.elim (by omega))
    exact k58 [(0, .ref 17)] rfl
  | succ d ih =>
    intro k hk
    refine lf_iload_n d_S_isRight_2 rfl rfl ?_
    refine lf_aload_n d_S_isRight_3 rfl rfl rfl ?_
    refine gi_getr s_S_isRight_4 (c_17 hS) rfl ?_
    refine gi_geti s_S_isRight_7 (c_1 hN) rfl ?_
    refine gi_top hn ?_
    refine gi_icmp_ge d_S_isRight_10 (tgt := 58) (by decide) (by omega) (fun hb10 => False.elim (by omega)) (fun hb10 => ?_)
    refine lf_aload_n d_S_isRight_13 rfl rfl rfl ?_
    refine lf_iload_n d_S_isRight_14 rfl rfl ?_
    refine gw_callP s_S_isRight_15 (s_targetOf hx hS (by omega) (ht k (by omega))) (S := []) rfl rfl (gcR_2 (c_17 hS)) (by decide) (by decide +kernel) (Nat.le_of_ble_eq_true rfl) ?_
    refine lf_istore_n d_S_isRight_18 rfl (by decide +kernel) (L2 := [(2, _), (1, _), (0, _)]) rfl ?_
    refine lf_aload_n d_S_isRight_19 rfl rfl rfl ?_
    refine lf_iload_n d_S_isRight_20 rfl rfl ?_
    refine gw_callP s_S_isRight_21 (s_isMerged hx hS (by omega) (ht k (by omega))) (S := []) rfl rfl (gcR_2 (c_17 hS)) (by decide) (by decide +kernel) (Nat.le_of_ble_eq_true rfl) ?_
    refine gi_if_eq d_S_isRight_24 (tgt := 52) (by decide) (by omega) (fun hb24 => ?_) (fun hb24 => False.elim (by omega))
    refine gi_iincN d_S_isRight_52 rfl (by decide +kernel) (L2 := [(1, _), (2, _), (0, _)]) rfl ?_
    refine lf_goto d_S_isRight_55 (tgt := 2) (by decide) ?_
    refine lf_sub [0, 2] rfl ?_
    exact ih (k + 1) (by omega)
theorem s_isRight_l2 (hN : clN sh) (hx : HX X L9 xs) (hS : clS sh) {n w s : Nat} (hV : clV sh n w) (hn2 : n ≤ 80) (hs : I 15 1 = s) (hw : I 15 2 = w) (hsw : (s ≤ 6 ∧ w = 1) ∨ (s = 7 ∧ w = 2)) (hn : I 1 11 = n) (ht : ∀ k, k < 80 → I 35 k = ((2 * k : Nat) : Int)) {no : Nat} {o0 o1 : Nat → Nat} (hno : I 10 0 = no) (hno4 : no ≤ 4) (ho : ∀ j, j < no → I 9 (0 * 4 + j) = o0 j ∧ I 9 (1 * 4 + j) = o1 j ∧ o0 j < n ∧ o1 j < n) (hkz : ∀ i, 2 ^ s ≤ i → i < 64 * w → kbit J i = false) (k128 : ∀ I1 : mI, (∀ x q, ¬ (x = 17 ∧ (q = 7 ∨ q = 8)) → I1 x q = I x q) → LXf TT cl6 X mi_S_isRight (40 + 5) (1000 + 200 * 5) D P PX kc ks 128 [(1, .int (Int32.ofInt ((no : Nat) : Int))), (0, .ref 17)] [] (hp sh I1 J)) : ∀ (d k : Nat) (I1 : mI), k + d = no → (∀ x q, ¬ (x = 17 ∧ (q = 7 ∨ q = 8)) → I1 x q = I x q) → LXf TT cl6 X mi_S_isRight (40 + 5) (1000 + 200 * 5) D P PX kc ks 60 [(1, .int (Int32.ofInt ((k : Nat) : Int))), (0, .ref 17)] [] (hp sh I1 J) := by
  intro d
  induction d with
  | zero =>
    intro k I1 hk hI
    obtain rfl : k = no := by omega
    have hno1 : I1 10 0 = (k : Int) := by rw [hI 10 0 (by omega)]; exact hno
    refine lf_iload_n d_S_isRight_60 rfl rfl ?_
    refine lf_aload_n d_S_isRight_61 rfl rfl rfl ?_
    refine gi_getr s_S_isRight_62 (c_17 hS) rfl ?_
    refine lf_iconst d_S_isRight_65 (v := Int32.ofInt ((0 : Nat) : Int)) rfl ?_
    refine gw_callP s_S_isRight_66 (n_outputsOf hx hN (by omega)) (S := [_]) rfl rfl (gcR_2 (c_1 hN)) (by decide) (by decide +kernel) (Nat.le_of_ble_eq_true rfl) ?_
    refine gi_top hno1 ?_
    refine gi_icmp_ge d_S_isRight_69 (tgt := 128) (by decide) (by omega) (fun hb69 => ?_) (fun hb69 => False.elim (by omega))
    exact k128 I1 hI
  | succ d ih =>
    intro k I1 hk hI
    have h := ho k (by omega)
    have hs1 : I1 15 1 = (s : Int) := by rw [hI 15 1 (by omega)]; exact hs
    have hw1 : I1 15 2 = (w : Int) := by rw [hI 15 2 (by omega)]; exact hw
    have hno1 : I1 10 0 = (no : Int) := by rw [hI 10 0 (by omega)]; exact hno
    obtain ⟨r, hr⟩ := FDq_ex (J := J) (w := w) (a := o0 k) (b := o1 k) (inv := false)
    rcases hr with ⟨-, hnd⟩ | ⟨i, hi0, -, hi2, hi3⟩
    · have hall := (same_iff (J := J) hsw hkz).mp hnd
      refine lf_iload_n d_S_isRight_60 rfl rfl ?_
      refine lf_aload_n d_S_isRight_61 rfl rfl rfl ?_
      refine gi_getr s_S_isRight_62 (c_17 hS) rfl ?_
      refine lf_iconst d_S_isRight_65 (v := Int32.ofInt ((0 : Nat) : Int)) rfl ?_
      refine gw_callP s_S_isRight_66 (n_outputsOf hx hN (by omega)) (S := [_]) rfl rfl (gcR_2 (c_1 hN)) (by decide) (by decide +kernel) (Nat.le_of_ble_eq_true rfl) ?_
      refine gi_top hno1 ?_
      refine gi_icmp_ge d_S_isRight_69 (tgt := 128) (by decide) (by omega) (fun hb69 => False.elim (by omega)) (fun hb69 => ?_)
      refine lf_aload_n d_S_isRight_72 rfl rfl rfl ?_
      refine gi_getr s_S_isRight_73 (c_17 hS) rfl ?_
      refine lf_iconst d_S_isRight_76 (v := Int32.ofInt ((0 : Nat) : Int)) rfl ?_
      refine lf_iload_n d_S_isRight_77 rfl rfl ?_
      refine gw_callP s_S_isRight_78 (n_outputAt hx hN (by omega)) (S := []) rfl rfl (gcR_2 (c_1 hN)) (by decide) (by decide +kernel) (Nat.le_of_ble_eq_true rfl) ?_
      refine gi_top (show I1 9 (0 * 4 + k) = (o0 k : Int) from by rw [hI 9 _ (by omega)]; exact h.1) ?_
      refine lf_istore_n d_S_isRight_81 rfl (by decide +kernel) (L2 := [(2, _), (1, _), (0, _)]) rfl ?_
      refine lf_aload_n d_S_isRight_82 rfl rfl rfl ?_
      refine gi_getr s_S_isRight_83 (c_17 hS) rfl ?_
      refine lf_iconst d_S_isRight_86 (v := Int32.ofInt ((1 : Nat) : Int)) rfl ?_
      refine lf_iload_n d_S_isRight_87 rfl rfl ?_
      refine gw_callP s_S_isRight_88 (n_outputAt hx hN (by omega)) (S := []) rfl rfl (gcR_2 (c_1 hN)) (by decide) (by decide +kernel) (Nat.le_of_ble_eq_true rfl) ?_
      refine gi_top (show I1 9 (1 * 4 + k) = (o1 k : Int) from by rw [hI 9 _ (by omega)]; exact h.2.1) ?_
      refine lf_istore_n d_S_isRight_91 rfl (by decide +kernel) (L2 := [(3, _), (2, _), (1, _), (0, _)]) rfl ?_
      refine lf_aload_n d_S_isRight_92 rfl rfl rfl ?_
      refine lf_iload_n d_S_isRight_93 rfl rfl ?_
      refine lf_iload_n d_S_isRight_94 rfl rfl ?_
      refine lf_iconst d_S_isRight_95 (v := Int32.ofInt ((0 : Nat) : Int)) rfl ?_
      refine gw_callV s_S_isRight_96 (s_compare_n0 hx hS hV hn2 hs1 hw1 hsw h.2.2.1 h.2.2.2 hnd) (S := []) rfl rfl (gcR_2 (c_17 hS)) (by decide) (by decide +kernel) (Nat.le_of_ble_eq_true rfl) (fun I J w96 => ?_)
      obtain ⟨rfl, rfl⟩ := w96
      refine lf_aload_n d_S_isRight_99 rfl rfl rfl ?_
      refine gi_geti s_S_isRight_100 (c_17 hS) rfl ?_
      refine gi_top (show ipt (ipt I1 17 8 (-1)) 17 7 _ 17 8 = -1 from rfl) ?_
      refine gi_if_ge d_S_isRight_103 (tgt := 110) (by decide) (by omega) (fun hb103 => False.elim (by omega)) (fun hb103 => ?_)
      refine lf_iconst d_S_isRight_106 (v := Int32.ofInt ((1 : Nat) : Int)) rfl ?_
      refine lf_goto d_S_isRight_107 (tgt := 111) (by decide) ?_
      refine lf_aload_n d_S_isRight_111 rfl rfl rfl ?_
      refine lf_iload_n d_S_isRight_112 rfl rfl ?_
      refine lf_iload_n d_S_isRight_113 rfl rfl ?_
      refine gw_callP s_S_isRight_114 (s_areSame (I := ipt (ipt I1 17 8 (-1)) 17 7 _) hx hS hV hn2 hs1 hw1 hsw h.2.2.1 h.2.2.2 (r := 1) (Or.inl ⟨rfl, hall⟩)) (S := [_]) rfl rfl (gcR_2 (c_17 hS)) (by decide) (by decide +kernel) (Nat.le_of_ble_eq_true rfl) ?_
      refine gi_icmp_eq d_S_isRight_117 (tgt := 122) (by decide) (by omega) (fun hb117 => ?_) (fun hb117 => False.elim (by omega))
      refine gi_iincN d_S_isRight_122 rfl (by decide +kernel) (L2 := [(1, _), (3, _), (2, _), (0, _)]) rfl ?_
      refine lf_goto d_S_isRight_125 (tgt := 60) (by decide) ?_
      refine lf_sub [0, 3] rfl ?_
      refine ih (k + 1) _ (by omega) (fun x q hq => ?_)
      by_cases e : x = 17
      · subst e
        rw [ipt_s, if_neg (fun z => hq ⟨rfl, Or.inl z⟩), ipt_s, if_neg (fun z => hq ⟨rfl, Or.inr z⟩)]
        exact hI 17 q hq
      · rw [ipt_o e, ipt_o e]
        exact hI x q hq
    · have hi1 : i < 2 ^ s := by
        rcases Nat.lt_or_ge i (2 ^ s) with q | q
        · exact q
        · unfold dbit at hi2
          rw [hkz i q hi0, Bool.and_false] at hi2
          cases hi2
      have hmb := mir_lt (s := s) (c := i) (by omega)
      have h128 := pow2_7 (s := s) (by omega)
      have hex : ∃ c, c < 2 ^ s ∧ kbit J (mir s c) = true ∧ ¬ hbit J w s (o0 k) c = hbit J w s (o1 k) c := by
        refine ⟨mir s i, mir_lt (by omega), ?_, fun e => ?_⟩
        · rw [mir_mir s (by omega) i hi1]
          unfold dbit at hi2
          rw [Bool.and_eq_true] at hi2
          exact hi2.2
        · unfold hbit at e
          rw [mir_mir s (by omega) i hi1] at e
          unfold dbit at hi2
          rw [e] at hi2
          cases h9 : lb (J 26 (o1 k * w + i / 64)) (i % 64) <;> rw [h9] at hi2 <;> simp at hi2
      refine lf_iload_n d_S_isRight_60 rfl rfl ?_
      refine lf_aload_n d_S_isRight_61 rfl rfl rfl ?_
      refine gi_getr s_S_isRight_62 (c_17 hS) rfl ?_
      refine lf_iconst d_S_isRight_65 (v := Int32.ofInt ((0 : Nat) : Int)) rfl ?_
      refine gw_callP s_S_isRight_66 (n_outputsOf hx hN (by omega)) (S := [_]) rfl rfl (gcR_2 (c_1 hN)) (by decide) (by decide +kernel) (Nat.le_of_ble_eq_true rfl) ?_
      refine gi_top hno1 ?_
      refine gi_icmp_ge d_S_isRight_69 (tgt := 128) (by decide) (by omega) (fun hb69 => False.elim (by omega)) (fun hb69 => ?_)
      refine lf_aload_n d_S_isRight_72 rfl rfl rfl ?_
      refine gi_getr s_S_isRight_73 (c_17 hS) rfl ?_
      refine lf_iconst d_S_isRight_76 (v := Int32.ofInt ((0 : Nat) : Int)) rfl ?_
      refine lf_iload_n d_S_isRight_77 rfl rfl ?_
      refine gw_callP s_S_isRight_78 (n_outputAt hx hN (by omega)) (S := []) rfl rfl (gcR_2 (c_1 hN)) (by decide) (by decide +kernel) (Nat.le_of_ble_eq_true rfl) ?_
      refine gi_top (show I1 9 (0 * 4 + k) = (o0 k : Int) from by rw [hI 9 _ (by omega)]; exact h.1) ?_
      refine lf_istore_n d_S_isRight_81 rfl (by decide +kernel) (L2 := [(2, _), (1, _), (0, _)]) rfl ?_
      refine lf_aload_n d_S_isRight_82 rfl rfl rfl ?_
      refine gi_getr s_S_isRight_83 (c_17 hS) rfl ?_
      refine lf_iconst d_S_isRight_86 (v := Int32.ofInt ((1 : Nat) : Int)) rfl ?_
      refine lf_iload_n d_S_isRight_87 rfl rfl ?_
      refine gw_callP s_S_isRight_88 (n_outputAt hx hN (by omega)) (S := []) rfl rfl (gcR_2 (c_1 hN)) (by decide) (by decide +kernel) (Nat.le_of_ble_eq_true rfl) ?_
      refine gi_top (show I1 9 (1 * 4 + k) = (o1 k : Int) from by rw [hI 9 _ (by omega)]; exact h.2.1) ?_
      refine lf_istore_n d_S_isRight_91 rfl (by decide +kernel) (L2 := [(3, _), (2, _), (1, _), (0, _)]) rfl ?_
      refine lf_aload_n d_S_isRight_92 rfl rfl rfl ?_
      refine lf_iload_n d_S_isRight_93 rfl rfl ?_
      refine lf_iload_n d_S_isRight_94 rfl rfl ?_
      refine lf_iconst d_S_isRight_95 (v := Int32.ofInt ((0 : Nat) : Int)) rfl ?_
      refine gw_callV s_S_isRight_96 (s_compare_f0 hx hS hV hn2 hs1 hw1 hsw h.2.2.1 h.2.2.2 hi1 hi2 hi3) (S := []) rfl rfl (gcR_2 (c_17 hS)) (by decide) (by decide +kernel) (Nat.le_of_ble_eq_true rfl) (fun I J w96 => ?_)
      obtain ⟨⟨g1, g2, g3, g4⟩, rfl⟩ := w96
      refine lf_aload_n d_S_isRight_99 rfl rfl rfl ?_
      refine gi_geti s_S_isRight_100 (c_17 hS) rfl ?_
      refine gi_top g2 ?_
      refine gi_if_ge d_S_isRight_103 (tgt := 110) (by decide) (by omega) (fun hb103 => ?_) (fun hb103 => False.elim (by omega))
      refine lf_iconst d_S_isRight_110 (v := Int32.ofInt ((0 : Nat) : Int)) rfl ?_
      refine lf_aload_n d_S_isRight_111 rfl rfl rfl ?_
      refine lf_iload_n d_S_isRight_112 rfl rfl ?_
      refine lf_iload_n d_S_isRight_113 rfl rfl ?_
      refine gw_callP s_S_isRight_114 (s_areSame hx hS hV hn2 (by rw [g1 15 1 (by omega)]; exact hs1) (by rw [g1 15 2 (by omega)]; exact hw1) hsw h.2.2.1 h.2.2.2 (r := 0) (Or.inr ⟨rfl, hex⟩)) (S := [_]) rfl rfl (gcR_2 (c_17 hS)) (by decide) (by decide +kernel) (Nat.le_of_ble_eq_true rfl) ?_
      refine gi_icmp_eq d_S_isRight_117 (tgt := 122) (by decide) (by omega) (fun hb117 => ?_) (fun hb117 => False.elim (by omega))
      refine gi_iincN d_S_isRight_122 rfl (by decide +kernel) (L2 := [(1, _), (3, _), (2, _), (0, _)]) rfl ?_
      refine lf_goto d_S_isRight_125 (tgt := 60) (by decide) ?_
      refine lf_sub [0, 3] rfl ?_
      refine ih (k + 1) _ (by omega) (fun x q hq => ?_)
      rw [g1 x q hq]; exact hI x q hq
theorem s_isRight (hN : clN sh) (hx : HX X L9 xs) (hS : clS sh) {n w s : Nat} (hV : clV sh n w) (hn2 : n ≤ 80) (hs : I 15 1 = s) (hw : I 15 2 = w) (hsw : (s ≤ 6 ∧ w = 1) ∨ (s = 7 ∧ w = 2)) (hn : I 1 11 = n) (ht : ∀ k, k < 80 → I 35 k = ((2 * k : Nat) : Int)) {no : Nat} {o0 o1 : Nat → Nat} (hno : I 10 0 = no) (hno4 : no ≤ 4) (ho : ∀ j, j < no → I 9 (0 * 4 + j) = o0 j ∧ I 9 (1 * 4 + j) = o1 j ∧ o0 j < n ∧ o1 j < n) (hkz : ∀ i, 2 ^ s ≤ i → i < 64 * w → kbit J i = false)  : EVi TT cl6 X mi_S_isRight 5 [.ref 17] sh I J (fun r I1 J1 => r = 1 ∧ (∀ x q, ¬ (x = 17 ∧ (q = 7 ∨ q = 8)) → I1 x q = I x q) ∧ J1 = J) := by
  refine gw_enter (hx_ok hx) (by decide +kernel) (Nat.le_of_ble_eq_true rfl) (L := [(0, _)]) rfl ?_
  refine lf_iconst d_S_isRight_0 (v := Int32.ofInt ((0 : Nat) : Int)) rfl ?_
  refine lf_istore_n d_S_isRight_1 rfl (by decide +kernel) (L2 := [(1, _), (0, _)]) rfl ?_
  refine s_isRight_l1 hN hx hS hV hn2 hs hw hsw hn ht hno hno4 ho hkz (v2 := 0) (fun _ _ => ?_) n 0 (by omega)
  refine lf_iconst d_S_isRight_58 (v := Int32.ofInt ((0 : Nat) : Int)) rfl ?_
  refine lf_istore_n d_S_isRight_59 rfl (by decide +kernel) (L2 := [(1, _), (0, _)]) rfl ?_
  refine s_isRight_l2 hN hx hS hV hn2 hs hw hsw hn ht hno hno4 ho hkz (fun I1 hI => ?_) no 0 I (by omega) (fun _ _ _ => rfl)
  refine lf_iconst d_S_isRight_128 (v := Int32.ofInt ((1 : Nat) : Int)) rfl ?_
  refine gw_zret d_S_isRight_129 rfl (by omega) ?_
  exact ⟨rfl, _, rfl, rfl, hI, rfl⟩
end ST3
