section LA4
variable {X : XT} {L9 : Nat} {xs : Nat → Int32} {sh : sM} {I : mI} {J : mJ}

variable {D : mF} {P : Option Value → mF → Prop} {PX : String → mF → Prop} {kc ks : Nat}

def GRq (I1 I : mI) : Prop := ∀ x q, ¬ (x = 17 ∧ (q = 7 ∨ q = 8)) → I1 x q = I x q
theorem GR_tr {I1 I2 : mI} (h : GRq I2 I1) (g : GRq I1 I) : GRq I2 I := fun x q z => (h x q z).trans (g x q z)
theorem ST_17 {I1 : mI} {N ni c s no w : Nat} {kd : Nat → Int} {ow r2 r3 dt : Nat → Nat} {ot : Nat → Nat → Nat} {bar : Int} (g : GRq I1 I) (h : STq sh I J N ni c s no w kd ow r2 r3 dt ot bar) : STq sh I1 J N ni c s no w kd ow r2 r3 dt ot bar :=
  ST_K (fun a _ => rfl) ⟨fun a q h1 _ _ h17 _ => g a q (by omega), rfl, rfl, rfl, rfl⟩ (fun a h8 h9 => funext fun q => g a q (by omega)) (g 15 9 (by omega)) rfl rfl rfl h
theorem CMP_D {I1 : mI} {s w a b i : Nat} {inv : Bool} (h64 : 2 ^ s ≤ 64 * w) (h : CMPR I1 J s w a b inv) (hi : i < 2 ^ s) (h1 : dbit J w a b inv i = true) (h2 : ∀ j, j < i → dbit J w a b inv j = false) : I1 17 8 = ((mir s i : Nat) : Int) ∧ 0 ≤ I1 17 7 ∧ I1 17 7 ≤ 20000 := by
  rcases h with ⟨i1, a1, a2, a3, a4, a5, a6⟩ | ⟨a1, -⟩
  · have e : i1 = i := by
      rcases Nat.lt_or_ge i1 i with q | q
      · rw [h2 i1 q] at a2; cases a2
      · rcases Nat.lt_or_ge i i1 with q1 | q1
        · rw [a3 i q1] at h1; cases h1
        · omega
    rw [e] at a4
    exact ⟨a4, a5, a6⟩
  · rw [a1 i (by omega)] at h1; cases h1
theorem CMP_E {I1 : mI} {s w a b : Nat} {inv : Bool} (h64 : 2 ^ s ≤ 64 * w) (h : CMPR I1 J s w a b inv) (hn : ∀ i, i < 64 * w → dbit J w a b inv i = false) : I1 17 8 = -1 ∧ I1 17 7 = ((1 + cbr (fun i => !lfb J w a b inv i) 1 (2 ^ s) : Nat) : Int) := by
  rcases h with ⟨i1, a1, a2, -⟩ | ⟨-, a2, a3⟩
  · rw [hn i1 (by omega)] at a2; cases a2
  · exact ⟨a2, a3⟩
theorem lcN_le : ∀ s, s < 8 → lcN s ≤ 255 := by decide +kernel
theorem law_g_l (hx : HX X L9 xs) {N ni c s no w : Nat} {kd : Nat → Int} {ow r2 r3 dt : Nat → Nat} {ot : Nat → Nat → Nat} {b : Nat} (hb9 : b < N) {ib : Bool} {bar : Int} (hbar : bar = (if ib then (b : Int) else -1)) (hst : STq sh I J N ni c s no w kd ow r2 r3 dt ot bar) (h150 : sh 150 = none) (k898 : ∀ I1 : mI, GRq I1 I → LXf TT cl6 X mi_W_law (40 + 11) (1000 + 200 * 11) D P PX kc ks 898 [(15, .ref 130), (14, .int (Int32.ofInt ((bn ib : Nat) : Int))), (12, .ref 129), (11, .ref 128), (10, .int (Int32.ofInt ((b : Nat) : Int))), (9, .int (Int32.ofInt ((2 ^ s : Nat) : Int))), (1, .ref 0), (0, .retAddr 1), (2, .int (Int32.ofInt ((1 : Nat) : Int))), (3, .int (Int32.ofInt ((ni : Nat) : Int))), (4, .int (Int32.ofInt ((c : Nat) : Int))), (5, .ref 100), (6, .int (Int32.ofInt ((s : Nat) : Int))), (7, .ref 124), (8, .ref 125)] [] (hp sh I1 J)) : ∀ (d k : Nat) (I1 : mI), k + d = 8 → GRq I1 I → LXf TT cl6 X mi_W_law (40 + 11) (1000 + 200 * 11) D P PX (256 * d + kc) (6000 * d + ks) 630 [(16, .int (Int32.ofInt ((k : Nat) : Int))), (15, .ref 130), (14, .int (Int32.ofInt ((bn ib : Nat) : Int))), (12, .ref 129), (11, .ref 128), (10, .int (Int32.ofInt ((b : Nat) : Int))), (9, .int (Int32.ofInt ((2 ^ s : Nat) : Int))), (1, .ref 0), (0, .retAddr 1), (2, .int (Int32.ofInt ((1 : Nat) : Int))), (3, .int (Int32.ofInt ((ni : Nat) : Int))), (4, .int (Int32.ofInt ((c : Nat) : Int))), (5, .ref 100), (6, .int (Int32.ofInt ((s : Nat) : Int))), (7, .ref 124), (8, .ref 125)] [] (hp sh I1 J) := by
  have hL := hst.1
  obtain ⟨hrk, hrw, hSH, hC, hk3, h124, h125, h126, hd5, ho5, hcs, hsw⟩ := id hL
  obtain ⟨ki, kc9, kg, hni1, hnis, hsN, hN23, hs7⟩ := id hrk
  obtain ⟨⟨f, hs0, hf⟩, hr, hR⟩ := id hrw
  have hM := hSH.1
  have hp7 := pow2_7 hs7
  have hp0 := Nat.two_pow_pos s
  obtain ⟨⟨fv, hv1, hv2⟩, hv3, hv4⟩ := hst.2.1
  have hth := hst.2.2.1
  have hkb := hth.2.2.2.2.2.1
  have hkz := hth.2.2.2.2.2.2.2
  have h64 := s64 hsw
  have hlc := lcN_le s (by omega)
  have hbar2 := hth.2.2.2.2.1
  intro d
  induction d with
  | zero =>
    intro k I1 hd gR
    obtain rfl : k = 8 := by omega
    refine lf_room (kc1 := kc) (ks1 := ks) (by omega) (by omega) ?_
    refine lf_iload d_W_law_630 rfl ?_
    refine lf_bipush d_W_law_632 (v := Int32.ofInt ((8 : Nat) : Int)) (by decide +kernel) ?_
    refine gi_icmp_ge d_W_law_634 (tgt := 898) (by decide) (by omega) (fun hb634 => ?_) (fun hb634 => False.elim (by omega))
    refine lf_sub [1, 2, 3, 4, 5, 6, 7, 8, 9, 10, 11, 12, 13, 14, 15] rfl ?_
    exact k898 I1 gR
  | succ d ih =>
    intro k I1 hd gR
    have hstc := ST_17 gR hst
    have hrw1 := hstc.1.2.1
    have j703 : ∀ a1 a2 tn : Nat, a1 < N → a2 < N → tn < 2 → LXf TT cl6 X mi_W_law (40 + 11) (1000 + 200 * 11) D P PX (256 * (d + 1) + kc) (6000 * (d + 1) + ks) 703 [(19, .int (Int32.ofInt ((tn : Nat) : Int))), (18, .int (Int32.ofInt ((a2 : Nat) : Int))), (17, .int (Int32.ofInt ((a1 : Nat) : Int))), (16, .int (Int32.ofInt ((k : Nat) : Int))), (15, .ref 130), (14, .int (Int32.ofInt ((bn ib : Nat) : Int))), (12, .ref 129), (11, .ref 128), (10, .int (Int32.ofInt ((b : Nat) : Int))), (9, .int (Int32.ofInt ((2 ^ s : Nat) : Int))), (1, .ref 0), (0, .retAddr 1), (2, .int (Int32.ofInt ((1 : Nat) : Int))), (3, .int (Int32.ofInt ((ni : Nat) : Int))), (4, .int (Int32.ofInt ((c : Nat) : Int))), (5, .ref 100), (6, .int (Int32.ofInt ((s : Nat) : Int))), (7, .ref 124), (8, .ref 125)] [.int (Int32.ofInt ((0 : Nat) : Int)), .int (Int32.ofInt ((0 : Nat) : Int)), .int (Int32.ofInt (bar)), .int (Int32.ofInt ((tn : Nat) : Int)), .int (Int32.ofInt ((a2 : Nat) : Int)), .int (Int32.ofInt ((a1 : Nat) : Int)), .int (Int32.ofInt ((s : Nat) : Int)), .ref 100] (hp sh I1 J) := by
      intro a1 a2 tn ha1 ha2 htn
      obtain ⟨due, hdue⟩ : ∃ z : Int, z = lvR (TD N s kd r2 r3) a1 a2 tn bar s 0 0 := ⟨_, rfl⟩
      have hspec := lv_spec hth ha1 ha2 htn
      rw [← hdue] at hspec
      refine lf_room (kc1 := lcN s + ((256 * d + kc) + 1)) (ks1 := 23 * lcN s + ((6000 * d + ks) + 6)) (by omega) (by omega) ?_
      refine gw_callAI s_W_law_703 (w_leaves hx hrw1 hrk (q := 150) (a := a1) (b := a2) (tn := tn) (bar := bar) (by omega) h150 ha1 ha2 htn hbar2 s 0 0 (by omega) (by decide)) (S := []) rfl rfl rfl rfl gcR_1 (by omega) (by decide +kernel) (Nat.le_of_ble_eq_true rfl) (fun s3 I3 J3 w703 => ?_)
      obtain ⟨h93, hi9, hj9⟩ := w703
      rw [h93, hi9, hj9]
      clear h93 hi9 hj9 s3 I3 J3
      refine gi_top hdue.symm ?_
      have hm7 := fun i => mir_lt (s := s) (c := i) (by omega)
      rcases (show tn = 0 ∨ tn = 1 by omega) with rfl | rfl
      · rcases hspec with ⟨i, hi, h1, h2, hdv⟩ | ⟨hn, hdv⟩
        · have hmi := hm7 i
          refine lf_istore d_W_law_706 (by decide +kernel) (L2 := [(20, _), (19, _), (18, _), (17, _), (16, _), (15, _), (14, _), (12, _), (11, _), (10, _), (9, _), (1, _), (0, _), (2, _), (3, _), (4, _), (5, _), (6, _), (7, _), (8, _)]) rfl ?_
          refine lf_iload_n d_W_law_708 rfl rfl ?_
          refine lf_aload_n d_W_law_709 rfl rfl rfl ?_
          refine lf_iload d_W_law_710 rfl ?_
          refine lf_iload d_W_law_712 rfl ?_
          refine lf_iload d_W_law_714 rfl ?_
          refine lf_iconst d_W_law_716 (v := Int32.ofInt ((1 : Nat) : Int)) rfl ?_
          refine gi_icmp_ne d_W_law_717 (tgt := 724) (by decide) (by omega) (fun hb717 => ?_) (fun hb717 => False.elim (by omega))
          refine lf_iconst d_W_law_724 (v := Int32.ofInt ((0 : Nat) : Int)) rfl ?_
          refine lf_sipush d_W_law_725 (v := Int32.ofInt ((20000 : Nat) : Int)) (by decide +kernel) ?_
          refine gw_callI s_W_law_728 (wI_prove hx hstc.1.2.2.1.1 (m_prove hx hstc.1.2.2.1 hstc.1.2.2.2.1 ha1 ha2 (decide (0 = 1)) hkz (bu := 20000) (by omega)) (lev := 10) (by decide)) (S := [_]) rfl rfl gcR_1 (by decide) (by decide +kernel) (Nat.le_of_ble_eq_true rfl) (fun r728 I728 J728 w728 => ?_)
          obtain ⟨c728, hr728, g728, hj9⟩ := w728
          rw [hj9]
          clear hj9
          have hstc := ST_17 g728 hstc
          have gR := GR_tr g728 gR
          have d728 := CMP_D h64 c728 hi h1 h2
          have e728 : r728 = 100 := by rw [hr728, if_neg (by omega), if_neg (by omega)]
          refine lf_iload d_W_law_731 rfl ?_
          refine gi_if_ge d_W_law_733 (tgt := 741) (by decide) (by omega) (fun hb733 => False.elim (by omega)) (fun hb733 => ?_)
          refine lf_bipush d_W_law_736 (v := Int32.ofInt ((100 : Nat) : Int)) (by decide +kernel) ?_
          refine lf_goto d_W_law_738 (tgt := 743) (by decide) ?_
          refine gi_icmp_ne d_W_law_743 (tgt := 821) (by decide) (by omega) (fun hb743 => False.elim (by omega)) (fun hb743 => ?_)
          refine lf_aload_n d_W_law_746 rfl rfl rfl ?_
          refine lf_iload d_W_law_747 rfl ?_
          refine lf_iload d_W_law_749 rfl ?_
          refine lf_iload d_W_law_751 rfl ?_
          refine lf_iconst d_W_law_753 (v := Int32.ofInt ((1 : Nat) : Int)) rfl ?_
          refine gi_icmp_ne d_W_law_754 (tgt := 761) (by decide) (by omega) (fun hb754 => ?_) (fun hb754 => False.elim (by omega))
          refine lf_iconst d_W_law_761 (v := Int32.ofInt ((0 : Nat) : Int)) rfl ?_
          refine gw_callX s_W_law_762 (w_proof_4 hx hstc.1.2.2.1.1 (m_proof_t hx hstc.1.2.2.1 hstc.1.2.2.2.1 ha1 ha2 (decide (0 = 1)) hkz ⟨i, by omega, h1⟩) (lev := 10) (by decide)) (S := [_]) rfl rfl gcR_1 (by decide) (by decide +kernel) (Nat.le_of_ble_eq_true rfl) (fun I762 J762 w762 => ?_)
          obtain ⟨g762, hj9⟩ := w762
          rw [hj9]
          clear hj9
          have hstc := ST_17 g762 hstc
          have gR := GR_tr g762 gR
          refine lf_iload d_W_law_765 rfl ?_
          refine gi_if_ge d_W_law_767 (tgt := 775) (by decide) (by omega) (fun hb767 => False.elim (by omega)) (fun hb767 => ?_)
          refine gi_pushi s_W_law_770 ?_
          refine lf_goto d_W_law_772 (tgt := 777) (by decide) ?_
          refine gi_icmp_ne d_W_law_777 (tgt := 821) (by decide) (by omega) (fun hb777 => False.elim (by omega)) (fun hb777 => ?_)
          refine lf_aload_n d_W_law_780 rfl rfl rfl ?_
          refine lf_iload d_W_law_781 rfl ?_
          refine lf_iload d_W_law_783 rfl ?_
          refine lf_iload d_W_law_785 rfl ?_
          refine lf_iconst d_W_law_787 (v := Int32.ofInt ((1 : Nat) : Int)) rfl ?_
          refine gi_icmp_ne d_W_law_788 (tgt := 795) (by decide) (by omega) (fun hb788 => ?_) (fun hb788 => False.elim (by omega))
          refine lf_iconst d_W_law_795 (v := Int32.ofInt ((0 : Nat) : Int)) rfl ?_
          refine gw_callI s_W_law_796 (wI_witness hx hstc.1.2.2.1.1 (m_witness hx hstc.1.2.2.1 hstc.1.2.2.2.1 ha1 ha2 (decide (0 = 1)) hkz ⟨i, by omega, h1⟩) (lev := 10) (by decide)) (S := [_]) rfl rfl gcR_1 (by decide) (by decide +kernel) (Nat.le_of_ble_eq_true rfl) (fun r796 I796 J796 w796 => ?_)
          obtain ⟨c796, hr796, g796, hj9⟩ := w796
          rw [hj9]
          clear hj9
          have hstc := ST_17 g796 hstc
          have gR := GR_tr g796 gR
          have d796 := CMP_D h64 c796 hi h1 h2
          refine lf_iload d_W_law_799 rfl ?_
          refine gi_if_ge d_W_law_801 (tgt := 812) (by decide) (by omega) (fun hb801 => False.elim (by omega)) (fun hb801 => ?_)
          refine lf_iload d_W_law_804 rfl ?_
          refine gi_pushi s_W_law_806 ?_
          refine gi_top (b := ((100000 : Nat) : Int)) rfl ?_
          refine gi_iadd d_W_law_808 ?_
          refine lf_goto d_W_law_809 (tgt := 814) (by decide) ?_
          refine gi_icmp_ne d_W_law_814 (tgt := 821) (by decide) (by omega) (fun hb814 => False.elim (by omega)) (fun hb814 => ?_)
          refine lf_iconst d_W_law_817 (v := Int32.ofInt ((1 : Nat) : Int)) rfl ?_
          refine lf_goto d_W_law_818 (tgt := 822) (by decide) ?_
          refine gi_iandN (a := 1) (b := 1) d_W_law_822 ?_
          refine gi_top rfl ?_
          refine lf_istore_n d_W_law_823 rfl (by decide +kernel) (L2 := [(2, _), (20, _), (19, _), (18, _), (17, _), (16, _), (15, _), (14, _), (12, _), (11, _), (10, _), (9, _), (1, _), (0, _), (3, _), (4, _), (5, _), (6, _), (7, _), (8, _)]) rfl ?_
          refine lf_iload_n d_W_law_824 rfl rfl ?_
          refine lf_iload d_W_law_825 rfl ?_
          refine lf_iconst d_W_law_827 (v := Int32.ofInt ((2 : Nat) : Int)) rfl ?_
          refine gi_icmp_lt d_W_law_828 (tgt := 885) (by decide) (by omega) (fun hb828 => ?_) (fun hb828 => False.elim (by omega))
          refine lf_iconst d_W_law_885 (v := Int32.ofInt ((1 : Nat) : Int)) rfl ?_
          refine lf_goto d_W_law_886 (tgt := 890) (by decide) ?_
          refine gi_iandN (a := 1) (b := 1) d_W_law_890 ?_
          refine gi_top rfl ?_
          refine lf_istore_n d_W_law_891 rfl (by decide +kernel) (L2 := [(2, _), (20, _), (19, _), (18, _), (17, _), (16, _), (15, _), (14, _), (12, _), (11, _), (10, _), (9, _), (1, _), (0, _), (3, _), (4, _), (5, _), (6, _), (7, _), (8, _)]) rfl ?_
          refine gi_iincN d_W_law_892 rfl (by decide +kernel) (L2 := [(16, _), (2, _), (20, _), (19, _), (18, _), (17, _), (15, _), (14, _), (12, _), (11, _), (10, _), (9, _), (1, _), (0, _), (3, _), (4, _), (5, _), (6, _), (7, _), (8, _)]) rfl ?_
          refine lf_goto d_W_law_895 (tgt := 630) (by decide) ?_
          refine lf_sub [0, 6, 7, 8, 9, 10, 11, 12, 13, 1, 14, 15, 16, 17, 18, 19] rfl ?_
          refine lf_room (kc1 := (256 * d + kc)) (ks1 := (6000 * d + ks)) (by omega) (by omega) ?_
          exact ih (k + 1) _ (by omega) gR
        · obtain ⟨dn, hdn9⟩ : ∃ z : Nat, z = 1 + cbr (fun i => !lfb J w a1 a2 (decide (0 = 1)) i) 1 (2 ^ s) := ⟨_, rfl⟩
          have hcb := cb_le (p := fun i => decide (1 ≤ i) && !lfb J w a1 a2 (decide (0 = 1)) i) (2 ^ s)
          have hcb2 : cbr (fun i => !lfb J w a1 a2 (decide (0 = 1)) i) 1 (2 ^ s) ≤ 2 ^ s := hcb
          have hdn : due = ((dn : Nat) : Int) := by rw [hdv, hdn9]
          refine lf_istore d_W_law_706 (by decide +kernel) (L2 := [(20, _), (19, _), (18, _), (17, _), (16, _), (15, _), (14, _), (12, _), (11, _), (10, _), (9, _), (1, _), (0, _), (2, _), (3, _), (4, _), (5, _), (6, _), (7, _), (8, _)]) rfl ?_
          refine lf_iload_n d_W_law_708 rfl rfl ?_
          refine lf_aload_n d_W_law_709 rfl rfl rfl ?_
          refine lf_iload d_W_law_710 rfl ?_
          refine lf_iload d_W_law_712 rfl ?_
          refine lf_iload d_W_law_714 rfl ?_
          refine lf_iconst d_W_law_716 (v := Int32.ofInt ((1 : Nat) : Int)) rfl ?_
          refine gi_icmp_ne d_W_law_717 (tgt := 724) (by decide) (by omega) (fun hb717 => ?_) (fun hb717 => False.elim (by omega))
          refine lf_iconst d_W_law_724 (v := Int32.ofInt ((0 : Nat) : Int)) rfl ?_
          refine lf_sipush d_W_law_725 (v := Int32.ofInt ((20000 : Nat) : Int)) (by decide +kernel) ?_
          refine gw_callI s_W_law_728 (wI_prove hx hstc.1.2.2.1.1 (m_prove hx hstc.1.2.2.1 hstc.1.2.2.2.1 ha1 ha2 (decide (0 = 1)) hkz (bu := 20000) (by omega)) (lev := 10) (by decide)) (S := [_]) rfl rfl gcR_1 (by decide) (by decide +kernel) (Nat.le_of_ble_eq_true rfl) (fun r728 I728 J728 w728 => ?_)
          obtain ⟨c728, hr728, g728, hj9⟩ := w728
          rw [hj9]
          clear hj9
          have hstc := ST_17 g728 hstc
          have gR := GR_tr g728 gR
          have d728 := CMP_E h64 c728 hn
          have e728 : r728 = 101 := by rw [hr728, if_neg (by omega), if_pos (by omega)]
          refine lf_iload d_W_law_731 rfl ?_
          refine gi_if_ge d_W_law_733 (tgt := 741) (by decide) (by omega) (fun hb733 => ?_) (fun hb733 => False.elim (by omega))
          refine lf_bipush d_W_law_741 (v := Int32.ofInt ((101 : Nat) : Int)) (by decide +kernel) ?_
          refine gi_icmp_ne d_W_law_743 (tgt := 821) (by decide) (by omega) (fun hb743 => False.elim (by omega)) (fun hb743 => ?_)
          refine lf_aload_n d_W_law_746 rfl rfl rfl ?_
          refine lf_iload d_W_law_747 rfl ?_
          refine lf_iload d_W_law_749 rfl ?_
          refine lf_iload d_W_law_751 rfl ?_
          refine lf_iconst d_W_law_753 (v := Int32.ofInt ((1 : Nat) : Int)) rfl ?_
          refine gi_icmp_ne d_W_law_754 (tgt := 761) (by decide) (by omega) (fun hb754 => ?_) (fun hb754 => False.elim (by omega))
          refine lf_iconst d_W_law_761 (v := Int32.ofInt ((0 : Nat) : Int)) rfl ?_
          refine gw_callI s_W_law_762 (wI_proof hx hstc.1.2.2.1.1 (m_proof hx hstc.1.2.2.1 hstc.1.2.2.2.1 ha1 ha2 (decide (0 = 1)) hkz hn) (lev := 10) (by decide)) (S := [_]) rfl rfl gcR_1 (by decide) (by decide +kernel) (Nat.le_of_ble_eq_true rfl) (fun r762 I762 J762 w762 => ?_)
          obtain ⟨c762, hr762, g762, hj9⟩ := w762
          rw [hj9]
          clear hj9
          have hstc := ST_17 g762 hstc
          have gR := GR_tr g762 gR
          have d762 := CMP_E h64 c762 hn
          refine lf_iload d_W_law_765 rfl ?_
          refine gi_if_ge d_W_law_767 (tgt := 775) (by decide) (by omega) (fun hb767 => ?_) (fun hb767 => False.elim (by omega))
          refine lf_iload d_W_law_775 rfl ?_
          refine gi_icmp_ne d_W_law_777 (tgt := 821) (by decide) (by omega) (fun hb777 => False.elim (by omega)) (fun hb777 => ?_)
          refine lf_aload_n d_W_law_780 rfl rfl rfl ?_
          refine lf_iload d_W_law_781 rfl ?_
          refine lf_iload d_W_law_783 rfl ?_
          refine lf_iload d_W_law_785 rfl ?_
          refine lf_iconst d_W_law_787 (v := Int32.ofInt ((1 : Nat) : Int)) rfl ?_
          refine gi_icmp_ne d_W_law_788 (tgt := 795) (by decide) (by omega) (fun hb788 => ?_) (fun hb788 => False.elim (by omega))
          refine lf_iconst d_W_law_795 (v := Int32.ofInt ((0 : Nat) : Int)) rfl ?_
          refine gw_callX s_W_law_796 (w_witness_4 hx hstc.1.2.2.1.1 (m_witness_t hx hstc.1.2.2.1 hstc.1.2.2.2.1 ha1 ha2 (decide (0 = 1)) hkz hn) (lev := 10) (by decide)) (S := [_]) rfl rfl gcR_1 (by decide) (by decide +kernel) (Nat.le_of_ble_eq_true rfl) (fun I796 J796 w796 => ?_)
          obtain ⟨g796, hj9⟩ := w796
          rw [hj9]
          clear hj9
          have hstc := ST_17 g796 hstc
          have gR := GR_tr g796 gR
          refine lf_iload d_W_law_799 rfl ?_
          refine gi_if_ge d_W_law_801 (tgt := 812) (by decide) (by omega) (fun hb801 => ?_) (fun hb801 => False.elim (by omega))
          refine gi_pushi s_W_law_812 ?_
          refine gi_icmp_ne d_W_law_814 (tgt := 821) (by decide) (by omega) (fun hb814 => False.elim (by omega)) (fun hb814 => ?_)
          refine lf_iconst d_W_law_817 (v := Int32.ofInt ((1 : Nat) : Int)) rfl ?_
          refine lf_goto d_W_law_818 (tgt := 822) (by decide) ?_
          refine gi_iandN (a := 1) (b := 1) d_W_law_822 ?_
          refine gi_top rfl ?_
          refine lf_istore_n d_W_law_823 rfl (by decide +kernel) (L2 := [(2, _), (20, _), (19, _), (18, _), (17, _), (16, _), (15, _), (14, _), (12, _), (11, _), (10, _), (9, _), (1, _), (0, _), (3, _), (4, _), (5, _), (6, _), (7, _), (8, _)]) rfl ?_
          refine lf_iload_n d_W_law_824 rfl rfl ?_
          refine lf_iload d_W_law_825 rfl ?_
          refine lf_iconst d_W_law_827 (v := Int32.ofInt ((2 : Nat) : Int)) rfl ?_
          refine gi_icmp_lt d_W_law_828 (tgt := 885) (by decide) (by omega) (fun hb828 => ?_) (fun hb828 => ?_)
          · refine lf_iconst d_W_law_885 (v := Int32.ofInt ((1 : Nat) : Int)) rfl ?_
            refine lf_goto d_W_law_886 (tgt := 890) (by decide) ?_
            refine gi_iandN (a := 1) (b := 1) d_W_law_890 ?_
            refine gi_top rfl ?_
            refine lf_istore_n d_W_law_891 rfl (by decide +kernel) (L2 := [(2, _), (20, _), (19, _), (18, _), (17, _), (16, _), (15, _), (14, _), (12, _), (11, _), (10, _), (9, _), (1, _), (0, _), (3, _), (4, _), (5, _), (6, _), (7, _), (8, _)]) rfl ?_
            refine gi_iincN d_W_law_892 rfl (by decide +kernel) (L2 := [(16, _), (2, _), (20, _), (19, _), (18, _), (17, _), (15, _), (14, _), (12, _), (11, _), (10, _), (9, _), (1, _), (0, _), (3, _), (4, _), (5, _), (6, _), (7, _), (8, _)]) rfl ?_
            refine lf_goto d_W_law_895 (tgt := 630) (by decide) ?_
            refine lf_sub [0, 6, 7, 8, 9, 10, 11, 12, 13, 1, 14, 15, 16, 17, 18, 19] rfl ?_
            refine lf_room (kc1 := (256 * d + kc)) (ks1 := (6000 * d + ks)) (by omega) (by omega) ?_
            exact ih (k + 1) _ (by omega) gR
          · refine lf_aload_n d_W_law_831 rfl rfl rfl ?_
            refine lf_iload d_W_law_832 rfl ?_
            refine lf_iload d_W_law_834 rfl ?_
            refine lf_iload d_W_law_836 rfl ?_
            refine lf_iconst d_W_law_838 (v := Int32.ofInt ((1 : Nat) : Int)) rfl ?_
            refine gi_icmp_ne d_W_law_839 (tgt := 846) (by decide) (by omega) (fun hb839 => ?_) (fun hb839 => False.elim (by omega))
            refine lf_iconst d_W_law_846 (v := Int32.ofInt ((0 : Nat) : Int)) rfl ?_
            refine lf_iload d_W_law_847 rfl ?_
            refine lf_iconst d_W_law_849 (v := Int32.ofInt ((1 : Nat) : Int)) rfl ?_
            refine gi_isub d_W_law_850 ?_
            refine gi_top (show due - ((1 : Nat) : Int) = ((dn - 1 : Nat) : Int) from by omega) ?_
            refine gw_callI s_W_law_851 (wI_prove hx hstc.1.2.2.1.1 (m_prove hx hstc.1.2.2.1 hstc.1.2.2.2.1 ha1 ha2 (decide (0 = 1)) hkz (bu := dn - 1) (by omega)) (lev := 10) (by decide)) (S := [_]) rfl rfl gcR_1 (by decide) (by decide +kernel) (Nat.le_of_ble_eq_true rfl) (fun r851 I851 J851 w851 => ?_)
            obtain ⟨c851, hr851, g851, hj9⟩ := w851
            rw [hj9]
            clear hj9
            have hstc := ST_17 g851 hstc
            have gR := GR_tr g851 gR
            have d851 := CMP_E h64 c851 hn
            have e851 : r851 = 117 := by rw [hr851, if_pos (by omega)]
            refine lf_bipush d_W_law_854 (v := Int32.ofInt ((117 : Nat) : Int)) (by decide +kernel) ?_
            refine gi_icmp_ne d_W_law_856 (tgt := 889) (by decide) (by omega) (fun hb856 => False.elim (by omega)) (fun hb856 => ?_)
            refine lf_aload_n d_W_law_859 rfl rfl rfl ?_
            refine lf_iload d_W_law_860 rfl ?_
            refine lf_iload d_W_law_862 rfl ?_
            refine lf_iload d_W_law_864 rfl ?_
            refine lf_iconst d_W_law_866 (v := Int32.ofInt ((1 : Nat) : Int)) rfl ?_
            refine gi_icmp_ne d_W_law_867 (tgt := 874) (by decide) (by omega) (fun hb867 => ?_) (fun hb867 => False.elim (by omega))
            refine lf_iconst d_W_law_874 (v := Int32.ofInt ((0 : Nat) : Int)) rfl ?_
            refine lf_iload d_W_law_875 rfl ?_
            refine gi_top hdn ?_
            refine gw_callI s_W_law_877 (wI_prove hx hstc.1.2.2.1.1 (m_prove hx hstc.1.2.2.1 hstc.1.2.2.2.1 ha1 ha2 (decide (0 = 1)) hkz (bu := dn) (by omega)) (lev := 10) (by decide)) (S := [_]) rfl rfl gcR_1 (by decide) (by decide +kernel) (Nat.le_of_ble_eq_true rfl) (fun r877 I877 J877 w877 => ?_)
            obtain ⟨c877, hr877, g877, hj9⟩ := w877
            rw [hj9]
            clear hj9
            have hstc := ST_17 g877 hstc
            have gR := GR_tr g877 gR
            have d877 := CMP_E h64 c877 hn
            have e877 : r877 = 101 := by rw [hr877, if_neg (by omega), if_pos (by omega)]
            refine lf_bipush d_W_law_880 (v := Int32.ofInt ((101 : Nat) : Int)) (by decide +kernel) ?_
            refine gi_icmp_ne d_W_law_882 (tgt := 889) (by decide) (by omega) (fun hb882 => False.elim (by omega)) (fun hb882 => ?_)
            refine lf_iconst d_W_law_885 (v := Int32.ofInt ((1 : Nat) : Int)) rfl ?_
            refine lf_goto d_W_law_886 (tgt := 890) (by decide) ?_
            refine gi_iandN (a := 1) (b := 1) d_W_law_890 ?_
            refine gi_top rfl ?_
            refine lf_istore_n d_W_law_891 rfl (by decide +kernel) (L2 := [(2, _), (20, _), (19, _), (18, _), (17, _), (16, _), (15, _), (14, _), (12, _), (11, _), (10, _), (9, _), (1, _), (0, _), (3, _), (4, _), (5, _), (6, _), (7, _), (8, _)]) rfl ?_
            refine gi_iincN d_W_law_892 rfl (by decide +kernel) (L2 := [(16, _), (2, _), (20, _), (19, _), (18, _), (17, _), (15, _), (14, _), (12, _), (11, _), (10, _), (9, _), (1, _), (0, _), (3, _), (4, _), (5, _), (6, _), (7, _), (8, _)]) rfl ?_
            refine lf_goto d_W_law_895 (tgt := 630) (by decide) ?_
            refine lf_sub [0, 6, 7, 8, 9, 10, 11, 12, 13, 1, 14, 15, 16, 17, 18, 19] rfl ?_
            refine lf_room (kc1 := (256 * d + kc)) (ks1 := (6000 * d + ks)) (by omega) (by omega) ?_
            exact ih (k + 1) _ (by omega) gR
      · rcases hspec with ⟨i, hi, h1, h2, hdv⟩ | ⟨hn, hdv⟩
        · have hmi := hm7 i
          refine lf_istore d_W_law_706 (by decide +kernel) (L2 := [(20, _), (19, _), (18, _), (17, _), (16, _), (15, _), (14, _), (12, _), (11, _), (10, _), (9, _), (1, _), (0, _), (2, _), (3, _), (4, _), (5, _), (6, _), (7, _), (8, _)]) rfl ?_
          refine lf_iload_n d_W_law_708 rfl rfl ?_
          refine lf_aload_n d_W_law_709 rfl rfl rfl ?_
          refine lf_iload d_W_law_710 rfl ?_
          refine lf_iload d_W_law_712 rfl ?_
          refine lf_iload d_W_law_714 rfl ?_
          refine lf_iconst d_W_law_716 (v := Int32.ofInt ((1 : Nat) : Int)) rfl ?_
          refine gi_icmp_ne d_W_law_717 (tgt := 724) (by decide) (by omega) (fun hb717 => False.elim (by omega)) (fun hb717 => ?_)
          refine lf_iconst d_W_law_720 (v := Int32.ofInt ((1 : Nat) : Int)) rfl ?_
          refine lf_goto d_W_law_721 (tgt := 725) (by decide) ?_
          refine lf_sipush d_W_law_725 (v := Int32.ofInt ((20000 : Nat) : Int)) (by decide +kernel) ?_
          refine gw_callI s_W_law_728 (wI_prove hx hstc.1.2.2.1.1 (m_prove hx hstc.1.2.2.1 hstc.1.2.2.2.1 ha1 ha2 (decide (1 = 1)) hkz (bu := 20000) (by omega)) (lev := 10) (by decide)) (S := [_]) rfl rfl gcR_1 (by decide) (by decide +kernel) (Nat.le_of_ble_eq_true rfl) (fun r728 I728 J728 w728 => ?_)
          obtain ⟨c728, hr728, g728, hj9⟩ := w728
          rw [hj9]
          clear hj9
          have hstc := ST_17 g728 hstc
          have gR := GR_tr g728 gR
          have d728 := CMP_D h64 c728 hi h1 h2
          have e728 : r728 = 100 := by rw [hr728, if_neg (by omega), if_neg (by omega)]
          refine lf_iload d_W_law_731 rfl ?_
          refine gi_if_ge d_W_law_733 (tgt := 741) (by decide) (by omega) (fun hb733 => False.elim (by omega)) (fun hb733 => ?_)
          refine lf_bipush d_W_law_736 (v := Int32.ofInt ((100 : Nat) : Int)) (by decide +kernel) ?_
          refine lf_goto d_W_law_738 (tgt := 743) (by decide) ?_
          refine gi_icmp_ne d_W_law_743 (tgt := 821) (by decide) (by omega) (fun hb743 => False.elim (by omega)) (fun hb743 => ?_)
          refine lf_aload_n d_W_law_746 rfl rfl rfl ?_
          refine lf_iload d_W_law_747 rfl ?_
          refine lf_iload d_W_law_749 rfl ?_
          refine lf_iload d_W_law_751 rfl ?_
          refine lf_iconst d_W_law_753 (v := Int32.ofInt ((1 : Nat) : Int)) rfl ?_
          refine gi_icmp_ne d_W_law_754 (tgt := 761) (by decide) (by omega) (fun hb754 => False.elim (by omega)) (fun hb754 => ?_)
          refine lf_iconst d_W_law_757 (v := Int32.ofInt ((1 : Nat) : Int)) rfl ?_
          refine lf_goto d_W_law_758 (tgt := 762) (by decide) ?_
          refine gw_callX s_W_law_762 (w_proof_4 hx hstc.1.2.2.1.1 (m_proof_t hx hstc.1.2.2.1 hstc.1.2.2.2.1 ha1 ha2 (decide (1 = 1)) hkz ⟨i, by omega, h1⟩) (lev := 10) (by decide)) (S := [_]) rfl rfl gcR_1 (by decide) (by decide +kernel) (Nat.le_of_ble_eq_true rfl) (fun I762 J762 w762 => ?_)
          obtain ⟨g762, hj9⟩ := w762
          rw [hj9]
          clear hj9
          have hstc := ST_17 g762 hstc
          have gR := GR_tr g762 gR
          refine lf_iload d_W_law_765 rfl ?_
          refine gi_if_ge d_W_law_767 (tgt := 775) (by decide) (by omega) (fun hb767 => False.elim (by omega)) (fun hb767 => ?_)
          refine gi_pushi s_W_law_770 ?_
          refine lf_goto d_W_law_772 (tgt := 777) (by decide) ?_
          refine gi_icmp_ne d_W_law_777 (tgt := 821) (by decide) (by omega) (fun hb777 => False.elim (by omega)) (fun hb777 => ?_)
          refine lf_aload_n d_W_law_780 rfl rfl rfl ?_
          refine lf_iload d_W_law_781 rfl ?_
          refine lf_iload d_W_law_783 rfl ?_
          refine lf_iload d_W_law_785 rfl ?_
          refine lf_iconst d_W_law_787 (v := Int32.ofInt ((1 : Nat) : Int)) rfl ?_
          refine gi_icmp_ne d_W_law_788 (tgt := 795) (by decide) (by omega) (fun hb788 => False.elim (by omega)) (fun hb788 => ?_)
          refine lf_iconst d_W_law_791 (v := Int32.ofInt ((1 : Nat) : Int)) rfl ?_
          refine lf_goto d_W_law_792 (tgt := 796) (by decide) ?_
          refine gw_callI s_W_law_796 (wI_witness hx hstc.1.2.2.1.1 (m_witness hx hstc.1.2.2.1 hstc.1.2.2.2.1 ha1 ha2 (decide (1 = 1)) hkz ⟨i, by omega, h1⟩) (lev := 10) (by decide)) (S := [_]) rfl rfl gcR_1 (by decide) (by decide +kernel) (Nat.le_of_ble_eq_true rfl) (fun r796 I796 J796 w796 => ?_)
          obtain ⟨c796, hr796, g796, hj9⟩ := w796
          rw [hj9]
          clear hj9
          have hstc := ST_17 g796 hstc
          have gR := GR_tr g796 gR
          have d796 := CMP_D h64 c796 hi h1 h2
          refine lf_iload d_W_law_799 rfl ?_
          refine gi_if_ge d_W_law_801 (tgt := 812) (by decide) (by omega) (fun hb801 => False.elim (by omega)) (fun hb801 => ?_)
          refine lf_iload d_W_law_804 rfl ?_
          refine gi_pushi s_W_law_806 ?_
          refine gi_top (b := ((100000 : Nat) : Int)) rfl ?_
          refine gi_iadd d_W_law_808 ?_
          refine lf_goto d_W_law_809 (tgt := 814) (by decide) ?_
          refine gi_icmp_ne d_W_law_814 (tgt := 821) (by decide) (by omega) (fun hb814 => False.elim (by omega)) (fun hb814 => ?_)
          refine lf_iconst d_W_law_817 (v := Int32.ofInt ((1 : Nat) : Int)) rfl ?_
          refine lf_goto d_W_law_818 (tgt := 822) (by decide) ?_
          refine gi_iandN (a := 1) (b := 1) d_W_law_822 ?_
          refine gi_top rfl ?_
          refine lf_istore_n d_W_law_823 rfl (by decide +kernel) (L2 := [(2, _), (20, _), (19, _), (18, _), (17, _), (16, _), (15, _), (14, _), (12, _), (11, _), (10, _), (9, _), (1, _), (0, _), (3, _), (4, _), (5, _), (6, _), (7, _), (8, _)]) rfl ?_
          refine lf_iload_n d_W_law_824 rfl rfl ?_
          refine lf_iload d_W_law_825 rfl ?_
          refine lf_iconst d_W_law_827 (v := Int32.ofInt ((2 : Nat) : Int)) rfl ?_
          refine gi_icmp_lt d_W_law_828 (tgt := 885) (by decide) (by omega) (fun hb828 => ?_) (fun hb828 => False.elim (by omega))
          refine lf_iconst d_W_law_885 (v := Int32.ofInt ((1 : Nat) : Int)) rfl ?_
          refine lf_goto d_W_law_886 (tgt := 890) (by decide) ?_
          refine gi_iandN (a := 1) (b := 1) d_W_law_890 ?_
          refine gi_top rfl ?_
          refine lf_istore_n d_W_law_891 rfl (by decide +kernel) (L2 := [(2, _), (20, _), (19, _), (18, _), (17, _), (16, _), (15, _), (14, _), (12, _), (11, _), (10, _), (9, _), (1, _), (0, _), (3, _), (4, _), (5, _), (6, _), (7, _), (8, _)]) rfl ?_
          refine gi_iincN d_W_law_892 rfl (by decide +kernel) (L2 := [(16, _), (2, _), (20, _), (19, _), (18, _), (17, _), (15, _), (14, _), (12, _), (11, _), (10, _), (9, _), (1, _), (0, _), (3, _), (4, _), (5, _), (6, _), (7, _), (8, _)]) rfl ?_
          refine lf_goto d_W_law_895 (tgt := 630) (by decide) ?_
          refine lf_sub [0, 6, 7, 8, 9, 10, 11, 12, 13, 1, 14, 15, 16, 17, 18, 19] rfl ?_
          refine lf_room (kc1 := (256 * d + kc)) (ks1 := (6000 * d + ks)) (by omega) (by omega) ?_
          exact ih (k + 1) _ (by omega) gR
        · obtain ⟨dn, hdn9⟩ : ∃ z : Nat, z = 1 + cbr (fun i => !lfb J w a1 a2 (decide (1 = 1)) i) 1 (2 ^ s) := ⟨_, rfl⟩
          have hcb := cb_le (p := fun i => decide (1 ≤ i) && !lfb J w a1 a2 (decide (1 = 1)) i) (2 ^ s)
          have hcb2 : cbr (fun i => !lfb J w a1 a2 (decide (1 = 1)) i) 1 (2 ^ s) ≤ 2 ^ s := hcb
          have hdn : due = ((dn : Nat) : Int) := by rw [hdv, hdn9]
          refine lf_istore d_W_law_706 (by decide +kernel) (L2 := [(20, _), (19, _), (18, _), (17, _), (16, _), (15, _), (14, _), (12, _), (11, _), (10, _), (9, _), (1, _), (0, _), (2, _), (3, _), (4, _), (5, _), (6, _), (7, _), (8, _)]) rfl ?_
          refine lf_iload_n d_W_law_708 rfl rfl ?_
          refine lf_aload_n d_W_law_709 rfl rfl rfl ?_
          refine lf_iload d_W_law_710 rfl ?_
          refine lf_iload d_W_law_712 rfl ?_
          refine lf_iload d_W_law_714 rfl ?_
          refine lf_iconst d_W_law_716 (v := Int32.ofInt ((1 : Nat) : Int)) rfl ?_
          refine gi_icmp_ne d_W_law_717 (tgt := 724) (by decide) (by omega) (fun hb717 => False.elim (by omega)) (fun hb717 => ?_)
          refine lf_iconst d_W_law_720 (v := Int32.ofInt ((1 : Nat) : Int)) rfl ?_
          refine lf_goto d_W_law_721 (tgt := 725) (by decide) ?_
          refine lf_sipush d_W_law_725 (v := Int32.ofInt ((20000 : Nat) : Int)) (by decide +kernel) ?_
          refine gw_callI s_W_law_728 (wI_prove hx hstc.1.2.2.1.1 (m_prove hx hstc.1.2.2.1 hstc.1.2.2.2.1 ha1 ha2 (decide (1 = 1)) hkz (bu := 20000) (by omega)) (lev := 10) (by decide)) (S := [_]) rfl rfl gcR_1 (by decide) (by decide +kernel) (Nat.le_of_ble_eq_true rfl) (fun r728 I728 J728 w728 => ?_)
          obtain ⟨c728, hr728, g728, hj9⟩ := w728
          rw [hj9]
          clear hj9
          have hstc := ST_17 g728 hstc
          have gR := GR_tr g728 gR
          have d728 := CMP_E h64 c728 hn
          have e728 : r728 = 101 := by rw [hr728, if_neg (by omega), if_pos (by omega)]
          refine lf_iload d_W_law_731 rfl ?_
          refine gi_if_ge d_W_law_733 (tgt := 741) (by decide) (by omega) (fun hb733 => ?_) (fun hb733 => False.elim (by omega))
          refine lf_bipush d_W_law_741 (v := Int32.ofInt ((101 : Nat) : Int)) (by decide +kernel) ?_
          refine gi_icmp_ne d_W_law_743 (tgt := 821) (by decide) (by omega) (fun hb743 => False.elim (by omega)) (fun hb743 => ?_)
          refine lf_aload_n d_W_law_746 rfl rfl rfl ?_
          refine lf_iload d_W_law_747 rfl ?_
          refine lf_iload d_W_law_749 rfl ?_
          refine lf_iload d_W_law_751 rfl ?_
          refine lf_iconst d_W_law_753 (v := Int32.ofInt ((1 : Nat) : Int)) rfl ?_
          refine gi_icmp_ne d_W_law_754 (tgt := 761) (by decide) (by omega) (fun hb754 => False.elim (by omega)) (fun hb754 => ?_)
          refine lf_iconst d_W_law_757 (v := Int32.ofInt ((1 : Nat) : Int)) rfl ?_
          refine lf_goto d_W_law_758 (tgt := 762) (by decide) ?_
          refine gw_callI s_W_law_762 (wI_proof hx hstc.1.2.2.1.1 (m_proof hx hstc.1.2.2.1 hstc.1.2.2.2.1 ha1 ha2 (decide (1 = 1)) hkz hn) (lev := 10) (by decide)) (S := [_]) rfl rfl gcR_1 (by decide) (by decide +kernel) (Nat.le_of_ble_eq_true rfl) (fun r762 I762 J762 w762 => ?_)
          obtain ⟨c762, hr762, g762, hj9⟩ := w762
          rw [hj9]
          clear hj9
          have hstc := ST_17 g762 hstc
          have gR := GR_tr g762 gR
          have d762 := CMP_E h64 c762 hn
          refine lf_iload d_W_law_765 rfl ?_
          refine gi_if_ge d_W_law_767 (tgt := 775) (by decide) (by omega) (fun hb767 => ?_) (fun hb767 => False.elim (by omega))
          refine lf_iload d_W_law_775 rfl ?_
          refine gi_icmp_ne d_W_law_777 (tgt := 821) (by decide) (by omega) (fun hb777 => False.elim (by omega)) (fun hb777 => ?_)
          refine lf_aload_n d_W_law_780 rfl rfl rfl ?_
          refine lf_iload d_W_law_781 rfl ?_
          refine lf_iload d_W_law_783 rfl ?_
          refine lf_iload d_W_law_785 rfl ?_
          refine lf_iconst d_W_law_787 (v := Int32.ofInt ((1 : Nat) : Int)) rfl ?_
          refine gi_icmp_ne d_W_law_788 (tgt := 795) (by decide) (by omega) (fun hb788 => False.elim (by omega)) (fun hb788 => ?_)
          refine lf_iconst d_W_law_791 (v := Int32.ofInt ((1 : Nat) : Int)) rfl ?_
          refine lf_goto d_W_law_792 (tgt := 796) (by decide) ?_
          refine gw_callX s_W_law_796 (w_witness_4 hx hstc.1.2.2.1.1 (m_witness_t hx hstc.1.2.2.1 hstc.1.2.2.2.1 ha1 ha2 (decide (1 = 1)) hkz hn) (lev := 10) (by decide)) (S := [_]) rfl rfl gcR_1 (by decide) (by decide +kernel) (Nat.le_of_ble_eq_true rfl) (fun I796 J796 w796 => ?_)
          obtain ⟨g796, hj9⟩ := w796
          rw [hj9]
          clear hj9
          have hstc := ST_17 g796 hstc
          have gR := GR_tr g796 gR
          refine lf_iload d_W_law_799 rfl ?_
          refine gi_if_ge d_W_law_801 (tgt := 812) (by decide) (by omega) (fun hb801 => ?_) (fun hb801 => False.elim (by omega))
          refine gi_pushi s_W_law_812 ?_
          refine gi_icmp_ne d_W_law_814 (tgt := 821) (by decide) (by omega) (fun hb814 => False.elim (by omega)) (fun hb814 => ?_)
          refine lf_iconst d_W_law_817 (v := Int32.ofInt ((1 : Nat) : Int)) rfl ?_
          refine lf_goto d_W_law_818 (tgt := 822) (by decide) ?_
          refine gi_iandN (a := 1) (b := 1) d_W_law_822 ?_
          refine gi_top rfl ?_
          refine lf_istore_n d_W_law_823 rfl (by decide +kernel) (L2 := [(2, _), (20, _), (19, _), (18, _), (17, _), (16, _), (15, _), (14, _), (12, _), (11, _), (10, _), (9, _), (1, _), (0, _), (3, _), (4, _), (5, _), (6, _), (7, _), (8, _)]) rfl ?_
          refine lf_iload_n d_W_law_824 rfl rfl ?_
          refine lf_iload d_W_law_825 rfl ?_
          refine lf_iconst d_W_law_827 (v := Int32.ofInt ((2 : Nat) : Int)) rfl ?_
          refine gi_icmp_lt d_W_law_828 (tgt := 885) (by decide) (by omega) (fun hb828 => ?_) (fun hb828 => ?_)
          · refine lf_iconst d_W_law_885 (v := Int32.ofInt ((1 : Nat) : Int)) rfl ?_
            refine lf_goto d_W_law_886 (tgt := 890) (by decide) ?_
            refine gi_iandN (a := 1) (b := 1) d_W_law_890 ?_
            refine gi_top rfl ?_
            refine lf_istore_n d_W_law_891 rfl (by decide +kernel) (L2 := [(2, _), (20, _), (19, _), (18, _), (17, _), (16, _), (15, _), (14, _), (12, _), (11, _), (10, _), (9, _), (1, _), (0, _), (3, _), (4, _), (5, _), (6, _), (7, _), (8, _)]) rfl ?_
            refine gi_iincN d_W_law_892 rfl (by decide +kernel) (L2 := [(16, _), (2, _), (20, _), (19, _), (18, _), (17, _), (15, _), (14, _), (12, _), (11, _), (10, _), (9, _), (1, _), (0, _), (3, _), (4, _), (5, _), (6, _), (7, _), (8, _)]) rfl ?_
            refine lf_goto d_W_law_895 (tgt := 630) (by decide) ?_
            refine lf_sub [0, 6, 7, 8, 9, 10, 11, 12, 13, 1, 14, 15, 16, 17, 18, 19] rfl ?_
            refine lf_room (kc1 := (256 * d + kc)) (ks1 := (6000 * d + ks)) (by omega) (by omega) ?_
            exact ih (k + 1) _ (by omega) gR
          · refine lf_aload_n d_W_law_831 rfl rfl rfl ?_
            refine lf_iload d_W_law_832 rfl ?_
            refine lf_iload d_W_law_834 rfl ?_
            refine lf_iload d_W_law_836 rfl ?_
            refine lf_iconst d_W_law_838 (v := Int32.ofInt ((1 : Nat) : Int)) rfl ?_
            refine gi_icmp_ne d_W_law_839 (tgt := 846) (by decide) (by omega) (fun hb839 => False.elim (by omega)) (fun hb839 => ?_)
            refine lf_iconst d_W_law_842 (v := Int32.ofInt ((1 : Nat) : Int)) rfl ?_
            refine lf_goto d_W_law_843 (tgt := 847) (by decide) ?_
            refine lf_iload d_W_law_847 rfl ?_
            refine lf_iconst d_W_law_849 (v := Int32.ofInt ((1 : Nat) : Int)) rfl ?_
            refine gi_isub d_W_law_850 ?_
            refine gi_top (show due - ((1 : Nat) : Int) = ((dn - 1 : Nat) : Int) from by omega) ?_
            refine gw_callI s_W_law_851 (wI_prove hx hstc.1.2.2.1.1 (m_prove hx hstc.1.2.2.1 hstc.1.2.2.2.1 ha1 ha2 (decide (1 = 1)) hkz (bu := dn - 1) (by omega)) (lev := 10) (by decide)) (S := [_]) rfl rfl gcR_1 (by decide) (by decide +kernel) (Nat.le_of_ble_eq_true rfl) (fun r851 I851 J851 w851 => ?_)
            obtain ⟨c851, hr851, g851, hj9⟩ := w851
            rw [hj9]
            clear hj9
            have hstc := ST_17 g851 hstc
            have gR := GR_tr g851 gR
            have d851 := CMP_E h64 c851 hn
            have e851 : r851 = 117 := by rw [hr851, if_pos (by omega)]
            refine lf_bipush d_W_law_854 (v := Int32.ofInt ((117 : Nat) : Int)) (by decide +kernel) ?_
            refine gi_icmp_ne d_W_law_856 (tgt := 889) (by decide) (by omega) (fun hb856 => False.elim (by omega)) (fun hb856 => ?_)
            refine lf_aload_n d_W_law_859 rfl rfl rfl ?_
            refine lf_iload d_W_law_860 rfl ?_
            refine lf_iload d_W_law_862 rfl ?_
            refine lf_iload d_W_law_864 rfl ?_
            refine lf_iconst d_W_law_866 (v := Int32.ofInt ((1 : Nat) : Int)) rfl ?_
            refine gi_icmp_ne d_W_law_867 (tgt := 874) (by decide) (by omega) (fun hb867 => False.elim (by omega)) (fun hb867 => ?_)
            refine lf_iconst d_W_law_870 (v := Int32.ofInt ((1 : Nat) : Int)) rfl ?_
            refine lf_goto d_W_law_871 (tgt := 875) (by decide) ?_
            refine lf_iload d_W_law_875 rfl ?_
            refine gi_top hdn ?_
            refine gw_callI s_W_law_877 (wI_prove hx hstc.1.2.2.1.1 (m_prove hx hstc.1.2.2.1 hstc.1.2.2.2.1 ha1 ha2 (decide (1 = 1)) hkz (bu := dn) (by omega)) (lev := 10) (by decide)) (S := [_]) rfl rfl gcR_1 (by decide) (by decide +kernel) (Nat.le_of_ble_eq_true rfl) (fun r877 I877 J877 w877 => ?_)
            obtain ⟨c877, hr877, g877, hj9⟩ := w877
            rw [hj9]
            clear hj9
            have hstc := ST_17 g877 hstc
            have gR := GR_tr g877 gR
            have d877 := CMP_E h64 c877 hn
            have e877 : r877 = 101 := by rw [hr877, if_neg (by omega), if_pos (by omega)]
            refine lf_bipush d_W_law_880 (v := Int32.ofInt ((101 : Nat) : Int)) (by decide +kernel) ?_
            refine gi_icmp_ne d_W_law_882 (tgt := 889) (by decide) (by omega) (fun hb882 => False.elim (by omega)) (fun hb882 => ?_)
            refine lf_iconst d_W_law_885 (v := Int32.ofInt ((1 : Nat) : Int)) rfl ?_
            refine lf_goto d_W_law_886 (tgt := 890) (by decide) ?_
            refine gi_iandN (a := 1) (b := 1) d_W_law_890 ?_
            refine gi_top rfl ?_
            refine lf_istore_n d_W_law_891 rfl (by decide +kernel) (L2 := [(2, _), (20, _), (19, _), (18, _), (17, _), (16, _), (15, _), (14, _), (12, _), (11, _), (10, _), (9, _), (1, _), (0, _), (3, _), (4, _), (5, _), (6, _), (7, _), (8, _)]) rfl ?_
            refine gi_iincN d_W_law_892 rfl (by decide +kernel) (L2 := [(16, _), (2, _), (20, _), (19, _), (18, _), (17, _), (15, _), (14, _), (12, _), (11, _), (10, _), (9, _), (1, _), (0, _), (3, _), (4, _), (5, _), (6, _), (7, _), (8, _)]) rfl ?_
            refine lf_goto d_W_law_895 (tgt := 630) (by decide) ?_
            refine lf_sub [0, 6, 7, 8, 9, 10, 11, 12, 13, 1, 14, 15, 16, 17, 18, 19] rfl ?_
            refine lf_room (kc1 := (256 * d + kc)) (ks1 := (6000 * d + ks)) (by omega) (by omega) ?_
            exact ih (k + 1) _ (by omega) gR
    cases ib with
    | false =>
      have hb1 : bar = -1 := hbar
      have hbi : bn false = 0 := rfl
      refine lf_iload d_W_law_630 rfl ?_
      refine lf_bipush d_W_law_632 (v := Int32.ofInt ((8 : Nat) : Int)) (by decide +kernel) ?_
      refine gi_icmp_ge d_W_law_634 (tgt := 898) (by decide) (by omega) (fun hb634 => False.elim (by omega)) (fun hb634 => ?_)
      refine lf_aload_n d_W_law_637 rfl rfl rfl ?_
      refine lf_sipush d_W_law_638 (v := Int32.ofInt ((350 : Nat) : Int)) (by decide +kernel) ?_
      refine lf_iload d_W_law_641 rfl ?_
      refine gi_iaddN (a := 350) (b := k) d_W_law_643 ?_
      refine lf_aload d_W_law_644 rfl rfl ?_
      refine gi_len d_W_law_646 hs0 ?_
      refine gw_callI s_W_law_647 (w_in hx (i := 350 + k) (n := N) (by omega) (by omega) (by omega)) (S := []) rfl rfl gcR_1 (by decide) (by decide +kernel) (Nat.le_of_ble_eq_true rfl) (fun r647 I647 J647 w647 => ?_)
      obtain ⟨⟨a1, ha1, rfl⟩, hi9, hj9⟩ := w647
      rw [hi9, hj9]
      clear hi9 hj9
      refine lf_istore d_W_law_650 (by decide +kernel) (L2 := [(17, _), (16, _), (15, _), (14, _), (12, _), (11, _), (10, _), (9, _), (1, _), (0, _), (2, _), (3, _), (4, _), (5, _), (6, _), (7, _), (8, _)]) rfl ?_
      refine lf_aload_n d_W_law_652 rfl rfl rfl ?_
      refine lf_sipush d_W_law_653 (v := Int32.ofInt ((360 : Nat) : Int)) (by decide +kernel) ?_
      refine lf_iload d_W_law_656 rfl ?_
      refine gi_iaddN (a := 360) (b := k) d_W_law_658 ?_
      refine lf_aload d_W_law_659 rfl rfl ?_
      refine gi_len d_W_law_661 hs0 ?_
      refine gw_callI s_W_law_662 (w_in hx (i := 360 + k) (n := N) (by omega) (by omega) (by omega)) (S := []) rfl rfl gcR_1 (by decide) (by decide +kernel) (Nat.le_of_ble_eq_true rfl) (fun r662 I662 J662 w662 => ?_)
      obtain ⟨⟨a2, ha2, rfl⟩, hi9, hj9⟩ := w662
      rw [hi9, hj9]
      clear hi9 hj9
      refine lf_istore d_W_law_665 (by decide +kernel) (L2 := [(18, _), (17, _), (16, _), (15, _), (14, _), (12, _), (11, _), (10, _), (9, _), (1, _), (0, _), (2, _), (3, _), (4, _), (5, _), (6, _), (7, _), (8, _)]) rfl ?_
      refine lf_aload_n d_W_law_667 rfl rfl rfl ?_
      refine lf_sipush d_W_law_668 (v := Int32.ofInt ((370 : Nat) : Int)) (by decide +kernel) ?_
      refine lf_iload d_W_law_671 rfl ?_
      refine gi_iaddN (a := 370) (b := k) d_W_law_673 ?_
      refine lf_iconst d_W_law_674 (v := Int32.ofInt ((2 : Nat) : Int)) rfl ?_
      refine gw_callI s_W_law_675 (w_in hx (i := 370 + k) (n := 2) (by omega) (by omega) (by omega)) (S := []) rfl rfl gcR_1 (by decide) (by decide +kernel) (Nat.le_of_ble_eq_true rfl) (fun r675 I675 J675 w675 => ?_)
      obtain ⟨⟨tn, htn, rfl⟩, hi9, hj9⟩ := w675
      rw [hi9, hj9]
      clear hi9 hj9
      refine lf_istore d_W_law_678 (by decide +kernel) (L2 := [(19, _), (18, _), (17, _), (16, _), (15, _), (14, _), (12, _), (11, _), (10, _), (9, _), (1, _), (0, _), (2, _), (3, _), (4, _), (5, _), (6, _), (7, _), (8, _)]) rfl ?_
      refine lf_aload d_W_law_680 rfl rfl ?_
      refine lf_iload d_W_law_682 rfl ?_
      refine lf_iload d_W_law_684 rfl ?_
      refine lf_iload d_W_law_686 rfl ?_
      refine lf_iload d_W_law_688 rfl ?_
      refine lf_iload d_W_law_690 rfl ?_
      refine gi_if_eq d_W_law_692 (tgt := 700) (by decide) (by omega) (fun hb692 => ?_) (fun hb692 => False.elim (by omega))
      refine lf_iconst d_W_law_700 (v := Int32.ofInt (-1)) rfl ?_
      refine gi_top hb1.symm ?_
      refine lf_iconst d_W_law_701 (v := Int32.ofInt ((0 : Nat) : Int)) rfl ?_
      refine lf_iconst d_W_law_702 (v := Int32.ofInt ((0 : Nat) : Int)) rfl ?_
      exact j703 a1 a2 tn ha1 ha2 htn
    | true =>
      have hb1 : bar = ((b : Nat) : Int) := hbar
      have hbi : bn true = 1 := rfl
      refine lf_iload d_W_law_630 rfl ?_
      refine lf_bipush d_W_law_632 (v := Int32.ofInt ((8 : Nat) : Int)) (by decide +kernel) ?_
      refine gi_icmp_ge d_W_law_634 (tgt := 898) (by decide) (by omega) (fun hb634 => False.elim (by omega)) (fun hb634 => ?_)
      refine lf_aload_n d_W_law_637 rfl rfl rfl ?_
      refine lf_sipush d_W_law_638 (v := Int32.ofInt ((350 : Nat) : Int)) (by decide +kernel) ?_
      refine lf_iload d_W_law_641 rfl ?_
      refine gi_iaddN (a := 350) (b := k) d_W_law_643 ?_
      refine lf_aload d_W_law_644 rfl rfl ?_
      refine gi_len d_W_law_646 hs0 ?_
      refine gw_callI s_W_law_647 (w_in hx (i := 350 + k) (n := N) (by omega) (by omega) (by omega)) (S := []) rfl rfl gcR_1 (by decide) (by decide +kernel) (Nat.le_of_ble_eq_true rfl) (fun r647 I647 J647 w647 => ?_)
      obtain ⟨⟨a1, ha1, rfl⟩, hi9, hj9⟩ := w647
      rw [hi9, hj9]
      clear hi9 hj9
      refine lf_istore d_W_law_650 (by decide +kernel) (L2 := [(17, _), (16, _), (15, _), (14, _), (12, _), (11, _), (10, _), (9, _), (1, _), (0, _), (2, _), (3, _), (4, _), (5, _), (6, _), (7, _), (8, _)]) rfl ?_
      refine lf_aload_n d_W_law_652 rfl rfl rfl ?_
      refine lf_sipush d_W_law_653 (v := Int32.ofInt ((360 : Nat) : Int)) (by decide +kernel) ?_
      refine lf_iload d_W_law_656 rfl ?_
      refine gi_iaddN (a := 360) (b := k) d_W_law_658 ?_
      refine lf_aload d_W_law_659 rfl rfl ?_
      refine gi_len d_W_law_661 hs0 ?_
      refine gw_callI s_W_law_662 (w_in hx (i := 360 + k) (n := N) (by omega) (by omega) (by omega)) (S := []) rfl rfl gcR_1 (by decide) (by decide +kernel) (Nat.le_of_ble_eq_true rfl) (fun r662 I662 J662 w662 => ?_)
      obtain ⟨⟨a2, ha2, rfl⟩, hi9, hj9⟩ := w662
      rw [hi9, hj9]
      clear hi9 hj9
      refine lf_istore d_W_law_665 (by decide +kernel) (L2 := [(18, _), (17, _), (16, _), (15, _), (14, _), (12, _), (11, _), (10, _), (9, _), (1, _), (0, _), (2, _), (3, _), (4, _), (5, _), (6, _), (7, _), (8, _)]) rfl ?_
      refine lf_aload_n d_W_law_667 rfl rfl rfl ?_
      refine lf_sipush d_W_law_668 (v := Int32.ofInt ((370 : Nat) : Int)) (by decide +kernel) ?_
      refine lf_iload d_W_law_671 rfl ?_
      refine gi_iaddN (a := 370) (b := k) d_W_law_673 ?_
      refine lf_iconst d_W_law_674 (v := Int32.ofInt ((2 : Nat) : Int)) rfl ?_
      refine gw_callI s_W_law_675 (w_in hx (i := 370 + k) (n := 2) (by omega) (by omega) (by omega)) (S := []) rfl rfl gcR_1 (by decide) (by decide +kernel) (Nat.le_of_ble_eq_true rfl) (fun r675 I675 J675 w675 => ?_)
      obtain ⟨⟨tn, htn, rfl⟩, hi9, hj9⟩ := w675
      rw [hi9, hj9]
      clear hi9 hj9
      refine lf_istore d_W_law_678 (by decide +kernel) (L2 := [(19, _), (18, _), (17, _), (16, _), (15, _), (14, _), (12, _), (11, _), (10, _), (9, _), (1, _), (0, _), (2, _), (3, _), (4, _), (5, _), (6, _), (7, _), (8, _)]) rfl ?_
      refine lf_aload d_W_law_680 rfl rfl ?_
      refine lf_iload d_W_law_682 rfl ?_
      refine lf_iload d_W_law_684 rfl ?_
      refine lf_iload d_W_law_686 rfl ?_
      refine lf_iload d_W_law_688 rfl ?_
      refine lf_iload d_W_law_690 rfl ?_
      refine gi_if_eq d_W_law_692 (tgt := 700) (by decide) (by omega) (fun hb692 => False.elim (by omega)) (fun hb692 => ?_)
      refine lf_iload d_W_law_695 rfl ?_
      refine gi_top hb1.symm ?_
      refine lf_goto d_W_law_697 (tgt := 701) (by decide) ?_
      refine lf_iconst d_W_law_701 (v := Int32.ofInt ((0 : Nat) : Int)) rfl ?_
      refine lf_iconst d_W_law_702 (v := Int32.ofInt ((0 : Nat) : Int)) rfl ?_
      exact j703 a1 a2 tn ha1 ha2 htn
theorem law_g (hx : HX X L9 xs) {N ni c s no w : Nat} {kd : Nat → Int} {ow r2 r3 dt : Nat → Nat} {ot : Nat → Nat → Nat} {b : Nat} (hb9 : b < N) {ib : Bool} {bar : Int} (hbar : bar = (if ib then (b : Int) else -1)) (hst : STq sh I J N ni c s no w kd ow r2 r3 dt ot bar) (h150 : sh 150 = none) (k898 : ∀ I1 : mI, GRq I1 I → LXf TT cl6 X mi_W_law (40 + 11) (1000 + 200 * 11) D P PX kc ks 898 [(15, .ref 130), (14, .int (Int32.ofInt ((bn ib : Nat) : Int))), (12, .ref 129), (11, .ref 128), (10, .int (Int32.ofInt ((b : Nat) : Int))), (9, .int (Int32.ofInt ((2 ^ s : Nat) : Int))), (1, .ref 0), (0, .retAddr 1), (2, .int (Int32.ofInt ((1 : Nat) : Int))), (3, .int (Int32.ofInt ((ni : Nat) : Int))), (4, .int (Int32.ofInt ((c : Nat) : Int))), (5, .ref 100), (6, .int (Int32.ofInt ((s : Nat) : Int))), (7, .ref 124), (8, .ref 125)] [] (hp sh I1 J)) : LXf TT cl6 X mi_W_law (40 + 11) (1000 + 200 * 11) D P PX (kc + 2048) (ks + 48000) 627 [(15, .ref 130), (14, .int (Int32.ofInt ((bn ib : Nat) : Int))), (12, .ref 129), (11, .ref 128), (10, .int (Int32.ofInt ((b : Nat) : Int))), (9, .int (Int32.ofInt ((2 ^ s : Nat) : Int))), (1, .ref 0), (0, .retAddr 1), (2, .int (Int32.ofInt ((1 : Nat) : Int))), (3, .int (Int32.ofInt ((ni : Nat) : Int))), (4, .int (Int32.ofInt ((c : Nat) : Int))), (5, .ref 100), (6, .int (Int32.ofInt ((s : Nat) : Int))), (7, .ref 124), (8, .ref 125)] [] (hp sh I J) := by
  refine lf_room (kc1 := 256 * 8 + kc) (ks1 := 6000 * 8 + ks) (by omega) (by omega) ?_
  refine lf_iconst d_W_law_627 (v := Int32.ofInt ((0 : Nat) : Int)) rfl ?_
  refine lf_istore d_W_law_628 (by decide +kernel) (L2 := [(16, _), (15, _), (14, _), (12, _), (11, _), (10, _), (9, _), (1, _), (0, _), (2, _), (3, _), (4, _), (5, _), (6, _), (7, _), (8, _)]) rfl ?_
  exact law_g_l hx hb9 hbar hst h150 k898 8 0 I (by omega) (fun _ _ _ => rfl)
end LA4
